abbrev rmi_X0_init : Room := { frames := 1, cells := 2, slots := 12, locals := 16 }
set_option maxRecDepth 100000 in
set_option maxHeartbeats 16000000 in
theorem ci_X0_init (l : Launch) (g : gG) (h0 sz : Nat) : Met l yX0_init (Cond.code yX0_init cX0_init 1 none :: ALLW) rmi_X0_init (IPre g sz h0 (.inr (0, [.null, .null]))) (va_Qv (fun _ : Unit => True) (fun _ t => ∃ q1 q2 : Nat, va_P g.1 vwCl [(h0, .inr (0, [.ref q1, .ref q2])), (q1, .inl (ca g 0, 6, .inl (fun _ => 0))), (q2, .inl (ca g 0, 6, .inl (fun _ => 0)))] t.heap ∧ va_D (va_A [(h0, .inr (0, [.null, .null]))] sz) [(h0, .inr (0, [.ref q1, .ref q2])), (q1, .inl (ca g 0, 6, .inl (fun _ => 0))), (q2, .inl (ca g 0, 6, .inl (fun _ => 0)))]) (va_A [(h0, .inr (0, [.null, .null]))] sz)) 2 12 (va_A [(h0, .inr (0, [.null, .null]))] sz) := by
  refine Met.ofW (cc := cX0_init) (maxL := 1) (ret := none) (by decide) rfl ?_
  intro p e s m args below meth c s₁ B hml hv
  obtain ⟨ha, hFx, hsz, hal, hlo, hO, hP⟩ := hv
  have Y : Ci g p s m args c meth RX0 cX0_init := Ci_of hFx B
  have hx := Y.1
  have hb := Y.2.1
  have hr := B.returns
  have hown := Y.2.2.1
  have hts := Y.2.2.2.1
  have hK := Y.2.2.2.2.1.1
  have hlocks := Y.2.2.2.2.2.1
  have hin : meth.name = "<init>" := (name_of_methodNamed B.named B.method).1
  subst hsz
  have hD := (va_D1 h0 (.inr (0, [.null, .null]))).self (sz := s.heap.size)
  have hAg : ∀ q, va_A [(h0, .inr (0, [.null, .null]))] s.heap.size q → gA g q := i_Ag hal hlo
  rw [ha, lg_entry_eq]
  have hl := lv_entry ([.ref h0] : List Value) (n := 1) (Nat.le_of_ble_eq_true rfl)
  generalize (lg_sl ([.ref h0] : List Value) ++ List.replicate (1 - (lg_sl ([.ref h0] : List Value)).length) Slot.unset).toArray = ls at hl ⊢
  have hl : lv_has ls 1 [(0, .ref h0)] := hl
  rw [← ha]
  generalize hAe : va_A [(h0, .inr (0, [.null, .null]))] s.heap.size = A at hD hAg ⊢
  have hA : ∀ q : Nat, s.heap.size ≤ q → A q := fun q h => by rw [← hAe]; exact Or.inr h
  have hS : va_S A s.heap s.heap [] := va_S.rf
  show W p l e rmi_X0_init s m args below meth c s.heap [] 0 0 _ (F0 m 0 ls [])
  refine lv_aload_n hx hb dX0_init_0 rfl (lv_at hl 0 rfl) ?_
  refine W.objInit hx hb hown (hts _ mw_221) (hts _ mw_96) (hts _ mw_97) rfl (by rw [hml]; exact hl.1) rfl dX0_init_1 (Nat.le_of_ble_eq_true rfl) (Nat.le_of_ble_eq_true rfl) ?_
  refine W.eq (g2 := F0 m 4 ls []) rfl ?_
  refine lv_aload_n hx hb dX0_init_4 rfl (lv_at hl 0 rfl) ?_
  refine lv_bipush (v := 6) hx hb dX0_init_5 (by decide) ?_
  refine i_newa Y hP hD hS hA (ty := .int) rfl 0 rfl (fun C => by simp) mw_160 (a0 := (6, .inl (fun _ => 0))) (N' := 6) (fun _ => rfl) (by decide) (by decide) (Nat.le_of_ble_eq_true rfl) (Nat.le_of_ble_eq_true rfl) (Nat.le_of_ble_eq_true rfl) dX0_init_7 (fun q1 H hP hD hS => ?_)
  have hP : va_P g.1 vwCl [(h0, .inr (0, [.null, .null])), (q1, .inl (ca g 0, 6, .inl (fun _ => 0)))] H := hP
  have hD : va_D A [(h0, .inr (0, [.null, .null])), (q1, .inl (ca g 0, 6, .inl (fun _ => 0)))] := hD
  refine va_putF (D := g.1) (ci := 0) (v := .ref q1) (ty := .array .int) (C := RX0) (T := TX0) (N := 2) hx hb hts inA_0 tyX0 tyX0_ok nmX0 hown hK hP hD hS 0 rfl rfl 0 (by decide) (hts _ mw_222) (fun _ h9 => h9) rfl hin rfl (by decide +kernel) rfl rfl (Nat.le_of_ble_eq_true rfl) dX0_init_9 (fun H locs hP hD hS => ?_)
  have hP : va_P g.1 vwCl [(h0, .inr (0, [.ref q1, .null])), (q1, .inl (ca g 0, 6, .inl (fun _ => 0)))] H := hP
  have hD : va_D A [(h0, .inr (0, [.ref q1, .null])), (q1, .inl (ca g 0, 6, .inl (fun _ => 0)))] := hD
  refine lv_aload_n hx hb dX0_init_12 rfl (lv_at hl 0 rfl) ?_
  refine lv_bipush (v := 6) hx hb dX0_init_13 (by decide) ?_
  refine i_newa Y hP hD hS hA (ty := .int) rfl 0 rfl (fun C => by simp) mw_160 (a0 := (6, .inl (fun _ => 0))) (N' := 6) (fun _ => rfl) (by decide) (by decide) (Nat.le_of_ble_eq_true rfl) (Nat.le_of_ble_eq_true rfl) (Nat.le_of_ble_eq_true rfl) dX0_init_15 (fun q2 H hP hD hS => ?_)
  have hP : va_P g.1 vwCl [(h0, .inr (0, [.ref q1, .null])), (q1, .inl (ca g 0, 6, .inl (fun _ => 0))), (q2, .inl (ca g 0, 6, .inl (fun _ => 0)))] H := hP
  have hD : va_D A [(h0, .inr (0, [.ref q1, .null])), (q1, .inl (ca g 0, 6, .inl (fun _ => 0))), (q2, .inl (ca g 0, 6, .inl (fun _ => 0)))] := hD
  refine va_putF (D := g.1) (ci := 0) (v := .ref q2) (ty := .array .int) (C := RX0) (T := TX0) (N := 2) hx hb hts inA_0 tyX0 tyX0_ok nmX0 hown hK hP hD hS 0 rfl rfl 1 (by decide) (hts _ mw_224) (fun _ h9 => h9) rfl hin rfl (by decide +kernel) rfl rfl (Nat.le_of_ble_eq_true rfl) dX0_init_17 (fun H locs hP hD hS => ?_)
  have hP : va_P g.1 vwCl [(h0, .inr (0, [.ref q1, .ref q2])), (q1, .inl (ca g 0, 6, .inl (fun _ => 0))), (q2, .inl (ca g 0, 6, .inl (fun _ => 0)))] H := hP
  have hD : va_D A [(h0, .inr (0, [.ref q1, .ref q2])), (q1, .inl (ca g 0, 6, .inl (fun _ => 0))), (q2, .inl (ca g 0, 6, .inl (fun _ => 0)))] := hD
  refine W.widen (k := 2) (n := 12) (Nat.le_of_ble_eq_true rfl) (Nat.le_of_ble_eq_true rfl) ?_
  exact W.vret hx hb hr (fun t ht hW => ⟨⟨(), rfl, trivial, q1, q2, by rw [ht]; exact hP, hD⟩, hS.F ht⟩) hS.2.2 dX0_init_20 hlocks
abbrev rmi_X3_init : Room := { frames := 1, cells := 1, slots := 12, locals := 16 }
set_option maxRecDepth 100000 in
set_option maxHeartbeats 16000000 in
theorem ci_X3_init (l : Launch) (g : gG) (h0 sz : Nat) : Met l yX3_init (Cond.code yX3_init cX3_init 1 none :: ALLW) rmi_X3_init (IPre g sz h0 (.inr (3, [.null, .int 0]))) (va_Qv (fun _ : Unit => True) (fun _ t => ∃ q1 : Nat, va_P g.1 vwCl [(h0, .inr (3, [.ref q1, .int 0])), (q1, .inl (ca g 2, 12, .inl (fun _ => 0)))] t.heap ∧ va_D (va_A [(h0, .inr (3, [.null, .int 0]))] sz) [(h0, .inr (3, [.ref q1, .int 0])), (q1, .inl (ca g 2, 12, .inl (fun _ => 0)))]) (va_A [(h0, .inr (3, [.null, .int 0]))] sz)) 1 12 (va_A [(h0, .inr (3, [.null, .int 0]))] sz) := by
  refine Met.ofW (cc := cX3_init) (maxL := 1) (ret := none) (by decide) rfl ?_
  intro p e s m args below meth c s₁ B hml hv
  obtain ⟨ha, hFx, hsz, hal, hlo, hO, hP⟩ := hv
  have Y : Ci g p s m args c meth RX3 cX3_init := Ci_of hFx B
  have hx := Y.1
  have hb := Y.2.1
  have hr := B.returns
  have hown := Y.2.2.1
  have hts := Y.2.2.2.1
  have hK := Y.2.2.2.2.1.1
  have hlocks := Y.2.2.2.2.2.1
  have hin : meth.name = "<init>" := (name_of_methodNamed B.named B.method).1
  subst hsz
  have hD := (va_D1 h0 (.inr (3, [.null, .int 0]))).self (sz := s.heap.size)
  have hAg : ∀ q, va_A [(h0, .inr (3, [.null, .int 0]))] s.heap.size q → gA g q := i_Ag hal hlo
  rw [ha, lg_entry_eq]
  have hl := lv_entry ([.ref h0] : List Value) (n := 1) (Nat.le_of_ble_eq_true rfl)
  generalize (lg_sl ([.ref h0] : List Value) ++ List.replicate (1 - (lg_sl ([.ref h0] : List Value)).length) Slot.unset).toArray = ls at hl ⊢
  have hl : lv_has ls 1 [(0, .ref h0)] := hl
  rw [← ha]
  generalize hAe : va_A [(h0, .inr (3, [.null, .int 0]))] s.heap.size = A at hD hAg ⊢
  have hA : ∀ q : Nat, s.heap.size ≤ q → A q := fun q h => by rw [← hAe]; exact Or.inr h
  have hS : va_S A s.heap s.heap [] := va_S.rf
  show W p l e rmi_X3_init s m args below meth c s.heap [] 0 0 _ (F0 m 0 ls [])
  refine lv_aload_n hx hb dX3_init_0 rfl (lv_at hl 0 rfl) ?_
  refine W.objInit hx hb hown (hts _ mw_237) (hts _ mw_96) (hts _ mw_97) rfl (by rw [hml]; exact hl.1) rfl dX3_init_1 (Nat.le_of_ble_eq_true rfl) (Nat.le_of_ble_eq_true rfl) ?_
  refine W.eq (g2 := F0 m 4 ls []) rfl ?_
  refine lv_aload_n hx hb dX3_init_4 rfl (lv_at hl 0 rfl) ?_
  refine lv_bipush (v := 12) hx hb dX3_init_5 (by decide) ?_
  refine i_newa Y hP hD hS hA (ty := .char) rfl 2 rfl (fun C => by simp) mw_247 (a0 := (12, .inl (fun _ => 0))) (N' := 12) (fun _ => rfl) (by decide) (by decide) (Nat.le_of_ble_eq_true rfl) (Nat.le_of_ble_eq_true rfl) (Nat.le_of_ble_eq_true rfl) dX3_init_7 (fun q1 H hP hD hS => ?_)
  have hP : va_P g.1 vwCl [(h0, .inr (3, [.null, .int 0])), (q1, .inl (ca g 2, 12, .inl (fun _ => 0)))] H := hP
  have hD : va_D A [(h0, .inr (3, [.null, .int 0])), (q1, .inl (ca g 2, 12, .inl (fun _ => 0)))] := hD
  refine va_putF (D := g.1) (ci := 3) (v := .ref q1) (ty := .array .char) (C := RX3) (T := TX3) (N := 2) hx hb hts inA_3 tyX3 tyX3_ok nmX3 hown hK hP hD hS 0 rfl rfl 0 (by decide) (hts _ mw_238) (fun _ h9 => h9) rfl hin rfl (by decide +kernel) rfl rfl (Nat.le_of_ble_eq_true rfl) dX3_init_9 (fun H locs hP hD hS => ?_)
  have hP : va_P g.1 vwCl [(h0, .inr (3, [.ref q1, .int 0])), (q1, .inl (ca g 2, 12, .inl (fun _ => 0)))] H := hP
  have hD : va_D A [(h0, .inr (3, [.ref q1, .int 0])), (q1, .inl (ca g 2, 12, .inl (fun _ => 0)))] := hD
  refine W.widen (k := 1) (n := 12) (Nat.le_of_ble_eq_true rfl) (Nat.le_of_ble_eq_true rfl) ?_
  exact W.vret hx hb hr (fun t ht hW => ⟨⟨(), rfl, trivial, q1, by rw [ht]; exact hP, hD⟩, hS.F ht⟩) hS.2.2 dX3_init_12 hlocks
abbrev rmi_X4_init : Room := { frames := 1, cells := 0, slots := 0, locals := 16 }
set_option maxRecDepth 100000 in
set_option maxHeartbeats 16000000 in
theorem ci_X4_init (l : Launch) (g : gG) (h0 sz : Nat) : Met l yX4_init (Cond.code yX4_init cX4_init 1 none :: ALLW) rmi_X4_init (IPre g sz h0 (.inr (4, [.int 0, .int 0, .int 0, .int 0, .int 0, .int 0, .int 0, .int 0]))) (va_Qv (fun _ : Unit => True) (fun _ t => va_P g.1 vwCl [(h0, .inr (4, [.int 0, .int 0, .int 0, .int 0, .int 0, .int 0, .int 0, .int 0]))] t.heap ∧ va_D (va_A [(h0, .inr (4, [.int 0, .int 0, .int 0, .int 0, .int 0, .int 0, .int 0, .int 0]))] sz) [(h0, .inr (4, [.int 0, .int 0, .int 0, .int 0, .int 0, .int 0, .int 0, .int 0]))]) (va_A [(h0, .inr (4, [.int 0, .int 0, .int 0, .int 0, .int 0, .int 0, .int 0, .int 0]))] sz)) 0 0 (va_A [(h0, .inr (4, [.int 0, .int 0, .int 0, .int 0, .int 0, .int 0, .int 0, .int 0]))] sz) := by
  refine Met.ofW (cc := cX4_init) (maxL := 1) (ret := none) (by decide) rfl ?_
  intro p e s m args below meth c s₁ B hml hv
  obtain ⟨ha, hFx, hsz, hal, hlo, hO, hP⟩ := hv
  have Y : Ci g p s m args c meth RX4 cX4_init := Ci_of hFx B
  have hx := Y.1
  have hb := Y.2.1
  have hr := B.returns
  have hown := Y.2.2.1
  have hts := Y.2.2.2.1
  have hK := Y.2.2.2.2.1.1
  have hlocks := Y.2.2.2.2.2.1
  have hin : meth.name = "<init>" := (name_of_methodNamed B.named B.method).1
  subst hsz
  have hD := (va_D1 h0 (.inr (4, [.int 0, .int 0, .int 0, .int 0, .int 0, .int 0, .int 0, .int 0]))).self (sz := s.heap.size)
  have hAg : ∀ q, va_A [(h0, .inr (4, [.int 0, .int 0, .int 0, .int 0, .int 0, .int 0, .int 0, .int 0]))] s.heap.size q → gA g q := i_Ag hal hlo
  rw [ha, lg_entry_eq]
  have hl := lv_entry ([.ref h0] : List Value) (n := 1) (Nat.le_of_ble_eq_true rfl)
  generalize (lg_sl ([.ref h0] : List Value) ++ List.replicate (1 - (lg_sl ([.ref h0] : List Value)).length) Slot.unset).toArray = ls at hl ⊢
  have hl : lv_has ls 1 [(0, .ref h0)] := hl
  rw [← ha]
  generalize hAe : va_A [(h0, .inr (4, [.int 0, .int 0, .int 0, .int 0, .int 0, .int 0, .int 0, .int 0]))] s.heap.size = A at hD hAg ⊢
  have hA : ∀ q : Nat, s.heap.size ≤ q → A q := fun q h => by rw [← hAe]; exact Or.inr h
  have hS : va_S A s.heap s.heap [] := va_S.rf
  show W p l e rmi_X4_init s m args below meth c s.heap [] 0 0 _ (F0 m 0 ls [])
  refine lv_aload_n hx hb dX4_init_0 rfl (lv_at hl 0 rfl) ?_
  refine W.objInit hx hb hown (hts _ mw_166) (hts _ mw_96) (hts _ mw_97) rfl (by rw [hml]; exact hl.1) rfl dX4_init_1 (Nat.le_of_ble_eq_true rfl) (Nat.le_of_ble_eq_true rfl) ?_
  refine W.eq (g2 := F0 m 4 ls []) rfl ?_
  refine W.widen (k := 0) (n := 0) (Nat.le_of_ble_eq_true rfl) (Nat.le_of_ble_eq_true rfl) ?_
  exact W.vret hx hb hr (fun t ht hW => ⟨⟨(), rfl, trivial, by rw [ht]; exact hP, hD⟩, hS.F ht⟩) hS.2.2 dX4_init_4 hlocks
abbrev rmi_X2_init : Room := { frames := 1, cells := 5, slots := 70, locals := 16 }
set_option maxRecDepth 100000 in
set_option maxHeartbeats 16000000 in
theorem ci_X2_init (l : Launch) (g : gG) (h0 sz : Nat) : Met l yX2_init (Cond.code yX2_init cX2_init 2 none :: ALLW) rmi_X2_init (IPre g sz h0 (.inr (2, [.null, .null, .null, .null, .null, .int 0, .int 0, .int 0, .int 0, .int 0]))) (va_Qv (fun _ : Unit => True) (fun _ t => ∃ q1 q2 q3 q4 q5 : Nat, va_P g.1 vwCl [(h0, .inr (2, [.ref q1, .ref q2, .ref q3, .ref q4, .ref q5, .int 0, .int 0, .int 0, .int 0, .int 0])), (q1, .inl (ca g 0, 6, .inl (upd (upd (upd (upd (upd (upd (fun _ => 0) 0 17) 1 17) 2 17) 3 17) 4 17) 5 17))), (q2, .inl (ca g 0, 6, .inl (fun _ => 0))), (q3, .inl (ca g 0, 6, .inl (upd (upd (upd (upd (upd (upd (fun _ => 0) 0 2) 1 2) 2 2) 3 2) 4 2) 5 2))), (q4, .inl (ca g 0, 48, .inl (fun _ => 0))), (q5, .inl (ca g 0, 4, .inl (upd (upd (upd (upd (fun _ => 0) 0 1) 1 840) 2 4) 3 10)))] t.heap ∧ va_D (va_A [(h0, .inr (2, [.null, .null, .null, .null, .null, .int 0, .int 0, .int 0, .int 0, .int 0]))] sz) [(h0, .inr (2, [.ref q1, .ref q2, .ref q3, .ref q4, .ref q5, .int 0, .int 0, .int 0, .int 0, .int 0])), (q1, .inl (ca g 0, 6, .inl (upd (upd (upd (upd (upd (upd (fun _ => 0) 0 17) 1 17) 2 17) 3 17) 4 17) 5 17))), (q2, .inl (ca g 0, 6, .inl (fun _ => 0))), (q3, .inl (ca g 0, 6, .inl (upd (upd (upd (upd (upd (upd (fun _ => 0) 0 2) 1 2) 2 2) 3 2) 4 2) 5 2))), (q4, .inl (ca g 0, 48, .inl (fun _ => 0))), (q5, .inl (ca g 0, 4, .inl (upd (upd (upd (upd (fun _ => 0) 0 1) 1 840) 2 4) 3 10)))]) (va_A [(h0, .inr (2, [.null, .null, .null, .null, .null, .int 0, .int 0, .int 0, .int 0, .int 0]))] sz)) 5 70 (va_A [(h0, .inr (2, [.null, .null, .null, .null, .null, .int 0, .int 0, .int 0, .int 0, .int 0]))] sz) := by
  refine Met.ofW (cc := cX2_init) (maxL := 2) (ret := none) (by decide) rfl ?_
  intro p e s m args below meth c s₁ B hml hv
  obtain ⟨ha, hFx, hsz, hal, hlo, hO, hP⟩ := hv
  have Y : Ci g p s m args c meth RX2 cX2_init := Ci_of hFx B
  have hx := Y.1
  have hb := Y.2.1
  have hr := B.returns
  have hown := Y.2.2.1
  have hts := Y.2.2.2.1
  have hK := Y.2.2.2.2.1.1
  have hlocks := Y.2.2.2.2.2.1
  have hin : meth.name = "<init>" := (name_of_methodNamed B.named B.method).1
  subst hsz
  have hD := (va_D1 h0 (.inr (2, [.null, .null, .null, .null, .null, .int 0, .int 0, .int 0, .int 0, .int 0]))).self (sz := s.heap.size)
  have hAg : ∀ q, va_A [(h0, .inr (2, [.null, .null, .null, .null, .null, .int 0, .int 0, .int 0, .int 0, .int 0]))] s.heap.size q → gA g q := i_Ag hal hlo
  rw [ha, lg_entry_eq]
  have hl := lv_entry ([.ref h0] : List Value) (n := 2) (Nat.le_of_ble_eq_true rfl)
  generalize (lg_sl ([.ref h0] : List Value) ++ List.replicate (2 - (lg_sl ([.ref h0] : List Value)).length) Slot.unset).toArray = ls at hl ⊢
  have hl : lv_has ls 2 [(0, .ref h0)] := hl
  rw [← ha]
  generalize hAe : va_A [(h0, .inr (2, [.null, .null, .null, .null, .null, .int 0, .int 0, .int 0, .int 0, .int 0]))] s.heap.size = A at hD hAg ⊢
  have hA : ∀ q : Nat, s.heap.size ≤ q → A q := fun q h => by rw [← hAe]; exact Or.inr h
  have hS : va_S A s.heap s.heap [] := va_S.rf
  show W p l e rmi_X2_init s m args below meth c s.heap [] 0 0 _ (F0 m 0 ls [])
  refine lv_aload_n hx hb dX2_init_0 rfl (lv_at hl 0 rfl) ?_
  refine W.objInit hx hb hown (hts _ mw_109) (hts _ mw_96) (hts _ mw_97) rfl (by rw [hml]; exact hl.1) rfl dX2_init_1 (Nat.le_of_ble_eq_true rfl) (Nat.le_of_ble_eq_true rfl) ?_
  refine W.eq (g2 := F0 m 4 ls []) rfl ?_
  refine lv_aload_n hx hb dX2_init_4 rfl (lv_at hl 0 rfl) ?_
  refine lv_bipush (v := 6) hx hb dX2_init_5 (by decide) ?_
  refine i_newa Y hP hD hS hA (ty := .int) rfl 0 rfl (fun C => by simp) mw_160 (a0 := (6, .inl (fun _ => 0))) (N' := 6) (fun _ => rfl) (by decide) (by decide) (Nat.le_of_ble_eq_true rfl) (Nat.le_of_ble_eq_true rfl) (Nat.le_of_ble_eq_true rfl) dX2_init_7 (fun q1 H hP hD hS => ?_)
  have hP : va_P g.1 vwCl [(h0, .inr (2, [.null, .null, .null, .null, .null, .int 0, .int 0, .int 0, .int 0, .int 0])), (q1, .inl (ca g 0, 6, .inl (fun _ => 0)))] H := hP
  have hD : va_D A [(h0, .inr (2, [.null, .null, .null, .null, .null, .int 0, .int 0, .int 0, .int 0, .int 0])), (q1, .inl (ca g 0, 6, .inl (fun _ => 0)))] := hD
  refine va_putF (D := g.1) (ci := 2) (v := .ref q1) (ty := .array .int) (C := RX2) (T := TX2) (N := 10) hx hb hts inA_2 tyX2 tyX2_ok nmX2 hown hK hP hD hS 0 rfl rfl 0 (by decide) (hts _ mw_112) (fun _ h9 => h9) rfl hin rfl (by decide +kernel) rfl rfl (Nat.le_of_ble_eq_true rfl) dX2_init_9 (fun H locs hP hD hS => ?_)
  have hP : va_P g.1 vwCl [(h0, .inr (2, [.ref q1, .null, .null, .null, .null, .int 0, .int 0, .int 0, .int 0, .int 0])), (q1, .inl (ca g 0, 6, .inl (fun _ => 0)))] H := hP
  have hD : va_D A [(h0, .inr (2, [.ref q1, .null, .null, .null, .null, .int 0, .int 0, .int 0, .int 0, .int 0])), (q1, .inl (ca g 0, 6, .inl (fun _ => 0)))] := hD
  refine lv_aload_n hx hb dX2_init_12 rfl (lv_at hl 0 rfl) ?_
  refine lv_bipush (v := 6) hx hb dX2_init_13 (by decide) ?_
  refine i_newa Y hP hD hS hA (ty := .int) rfl 0 rfl (fun C => by simp) mw_160 (a0 := (6, .inl (fun _ => 0))) (N' := 6) (fun _ => rfl) (by decide) (by decide) (Nat.le_of_ble_eq_true rfl) (Nat.le_of_ble_eq_true rfl) (Nat.le_of_ble_eq_true rfl) dX2_init_15 (fun q2 H hP hD hS => ?_)
  have hP : va_P g.1 vwCl [(h0, .inr (2, [.ref q1, .null, .null, .null, .null, .int 0, .int 0, .int 0, .int 0, .int 0])), (q1, .inl (ca g 0, 6, .inl (fun _ => 0))), (q2, .inl (ca g 0, 6, .inl (fun _ => 0)))] H := hP
  have hD : va_D A [(h0, .inr (2, [.ref q1, .null, .null, .null, .null, .int 0, .int 0, .int 0, .int 0, .int 0])), (q1, .inl (ca g 0, 6, .inl (fun _ => 0))), (q2, .inl (ca g 0, 6, .inl (fun _ => 0)))] := hD
  refine va_putF (D := g.1) (ci := 2) (v := .ref q2) (ty := .array .int) (C := RX2) (T := TX2) (N := 10) hx hb hts inA_2 tyX2 tyX2_ok nmX2 hown hK hP hD hS 0 rfl rfl 1 (by decide) (hts _ mw_115) (fun _ h9 => h9) rfl hin rfl (by decide +kernel) rfl rfl (Nat.le_of_ble_eq_true rfl) dX2_init_17 (fun H locs hP hD hS => ?_)
  have hP : va_P g.1 vwCl [(h0, .inr (2, [.ref q1, .ref q2, .null, .null, .null, .int 0, .int 0, .int 0, .int 0, .int 0])), (q1, .inl (ca g 0, 6, .inl (fun _ => 0))), (q2, .inl (ca g 0, 6, .inl (fun _ => 0)))] H := hP
  have hD : va_D A [(h0, .inr (2, [.ref q1, .ref q2, .null, .null, .null, .int 0, .int 0, .int 0, .int 0, .int 0])), (q1, .inl (ca g 0, 6, .inl (fun _ => 0))), (q2, .inl (ca g 0, 6, .inl (fun _ => 0)))] := hD
  refine lv_aload_n hx hb dX2_init_20 rfl (lv_at hl 0 rfl) ?_
  refine lv_bipush (v := 6) hx hb dX2_init_21 (by decide) ?_
  refine i_newa Y hP hD hS hA (ty := .int) rfl 0 rfl (fun C => by simp) mw_160 (a0 := (6, .inl (fun _ => 0))) (N' := 6) (fun _ => rfl) (by decide) (by decide) (Nat.le_of_ble_eq_true rfl) (Nat.le_of_ble_eq_true rfl) (Nat.le_of_ble_eq_true rfl) dX2_init_23 (fun q3 H hP hD hS => ?_)
  have hP : va_P g.1 vwCl [(h0, .inr (2, [.ref q1, .ref q2, .null, .null, .null, .int 0, .int 0, .int 0, .int 0, .int 0])), (q1, .inl (ca g 0, 6, .inl (fun _ => 0))), (q2, .inl (ca g 0, 6, .inl (fun _ => 0))), (q3, .inl (ca g 0, 6, .inl (fun _ => 0)))] H := hP
  have hD : va_D A [(h0, .inr (2, [.ref q1, .ref q2, .null, .null, .null, .int 0, .int 0, .int 0, .int 0, .int 0])), (q1, .inl (ca g 0, 6, .inl (fun _ => 0))), (q2, .inl (ca g 0, 6, .inl (fun _ => 0))), (q3, .inl (ca g 0, 6, .inl (fun _ => 0)))] := hD
  refine va_putF (D := g.1) (ci := 2) (v := .ref q3) (ty := .array .int) (C := RX2) (T := TX2) (N := 10) hx hb hts inA_2 tyX2 tyX2_ok nmX2 hown hK hP hD hS 0 rfl rfl 2 (by decide) (hts _ mw_118) (fun _ h9 => h9) rfl hin rfl (by decide +kernel) rfl rfl (Nat.le_of_ble_eq_true rfl) dX2_init_25 (fun H locs hP hD hS => ?_)
  have hP : va_P g.1 vwCl [(h0, .inr (2, [.ref q1, .ref q2, .ref q3, .null, .null, .int 0, .int 0, .int 0, .int 0, .int 0])), (q1, .inl (ca g 0, 6, .inl (fun _ => 0))), (q2, .inl (ca g 0, 6, .inl (fun _ => 0))), (q3, .inl (ca g 0, 6, .inl (fun _ => 0)))] H := hP
  have hD : va_D A [(h0, .inr (2, [.ref q1, .ref q2, .ref q3, .null, .null, .int 0, .int 0, .int 0, .int 0, .int 0])), (q1, .inl (ca g 0, 6, .inl (fun _ => 0))), (q2, .inl (ca g 0, 6, .inl (fun _ => 0))), (q3, .inl (ca g 0, 6, .inl (fun _ => 0)))] := hD
  refine lv_aload_n hx hb dX2_init_28 rfl (lv_at hl 0 rfl) ?_
  refine lv_bipush (v := 48) hx hb dX2_init_29 (by decide) ?_
  refine i_newa Y hP hD hS hA (ty := .int) rfl 0 rfl (fun C => by simp) mw_160 (a0 := (48, .inl (fun _ => 0))) (N' := 48) (fun _ => rfl) (by decide) (by decide) (Nat.le_of_ble_eq_true rfl) (Nat.le_of_ble_eq_true rfl) (Nat.le_of_ble_eq_true rfl) dX2_init_31 (fun q4 H hP hD hS => ?_)
  have hP : va_P g.1 vwCl [(h0, .inr (2, [.ref q1, .ref q2, .ref q3, .null, .null, .int 0, .int 0, .int 0, .int 0, .int 0])), (q1, .inl (ca g 0, 6, .inl (fun _ => 0))), (q2, .inl (ca g 0, 6, .inl (fun _ => 0))), (q3, .inl (ca g 0, 6, .inl (fun _ => 0))), (q4, .inl (ca g 0, 48, .inl (fun _ => 0)))] H := hP
  have hD : va_D A [(h0, .inr (2, [.ref q1, .ref q2, .ref q3, .null, .null, .int 0, .int 0, .int 0, .int 0, .int 0])), (q1, .inl (ca g 0, 6, .inl (fun _ => 0))), (q2, .inl (ca g 0, 6, .inl (fun _ => 0))), (q3, .inl (ca g 0, 6, .inl (fun _ => 0))), (q4, .inl (ca g 0, 48, .inl (fun _ => 0)))] := hD
  refine va_putF (D := g.1) (ci := 2) (v := .ref q4) (ty := .array .int) (C := RX2) (T := TX2) (N := 10) hx hb hts inA_2 tyX2 tyX2_ok nmX2 hown hK hP hD hS 0 rfl rfl 3 (by decide) (hts _ mw_121) (fun _ h9 => h9) rfl hin rfl (by decide +kernel) rfl rfl (Nat.le_of_ble_eq_true rfl) dX2_init_33 (fun H locs hP hD hS => ?_)
  have hP : va_P g.1 vwCl [(h0, .inr (2, [.ref q1, .ref q2, .ref q3, .ref q4, .null, .int 0, .int 0, .int 0, .int 0, .int 0])), (q1, .inl (ca g 0, 6, .inl (fun _ => 0))), (q2, .inl (ca g 0, 6, .inl (fun _ => 0))), (q3, .inl (ca g 0, 6, .inl (fun _ => 0))), (q4, .inl (ca g 0, 48, .inl (fun _ => 0)))] H := hP
  have hD : va_D A [(h0, .inr (2, [.ref q1, .ref q2, .ref q3, .ref q4, .null, .int 0, .int 0, .int 0, .int 0, .int 0])), (q1, .inl (ca g 0, 6, .inl (fun _ => 0))), (q2, .inl (ca g 0, 6, .inl (fun _ => 0))), (q3, .inl (ca g 0, 6, .inl (fun _ => 0))), (q4, .inl (ca g 0, 48, .inl (fun _ => 0)))] := hD
  refine lv_aload_n hx hb dX2_init_36 rfl (lv_at hl 0 rfl) ?_
  refine lv_iconst (v := 4) hx hb dX2_init_37 (by decide) ?_
  refine i_newa Y hP hD hS hA (ty := .int) rfl 0 rfl (fun C => by simp) mw_160 (a0 := (4, .inl (fun _ => 0))) (N' := 4) (fun _ => rfl) (by decide) (by decide) (Nat.le_of_ble_eq_true rfl) (Nat.le_of_ble_eq_true rfl) (Nat.le_of_ble_eq_true rfl) dX2_init_38 (fun q5 H hP hD hS => ?_)
  have hP : va_P g.1 vwCl [(h0, .inr (2, [.ref q1, .ref q2, .ref q3, .ref q4, .null, .int 0, .int 0, .int 0, .int 0, .int 0])), (q1, .inl (ca g 0, 6, .inl (fun _ => 0))), (q2, .inl (ca g 0, 6, .inl (fun _ => 0))), (q3, .inl (ca g 0, 6, .inl (fun _ => 0))), (q4, .inl (ca g 0, 48, .inl (fun _ => 0))), (q5, .inl (ca g 0, 4, .inl (fun _ => 0)))] H := hP
  have hD : va_D A [(h0, .inr (2, [.ref q1, .ref q2, .ref q3, .ref q4, .null, .int 0, .int 0, .int 0, .int 0, .int 0])), (q1, .inl (ca g 0, 6, .inl (fun _ => 0))), (q2, .inl (ca g 0, 6, .inl (fun _ => 0))), (q3, .inl (ca g 0, 6, .inl (fun _ => 0))), (q4, .inl (ca g 0, 48, .inl (fun _ => 0))), (q5, .inl (ca g 0, 4, .inl (fun _ => 0)))] := hD
  refine va_putF (D := g.1) (ci := 2) (v := .ref q5) (ty := .array .int) (C := RX2) (T := TX2) (N := 10) hx hb hts inA_2 tyX2 tyX2_ok nmX2 hown hK hP hD hS 0 rfl rfl 4 (by decide) (hts _ mw_124) (fun _ h9 => h9) rfl hin rfl (by decide +kernel) rfl rfl (Nat.le_of_ble_eq_true rfl) dX2_init_40 (fun H locs hP hD hS => ?_)
  have hP : va_P g.1 vwCl [(h0, .inr (2, [.ref q1, .ref q2, .ref q3, .ref q4, .ref q5, .int 0, .int 0, .int 0, .int 0, .int 0])), (q1, .inl (ca g 0, 6, .inl (fun _ => 0))), (q2, .inl (ca g 0, 6, .inl (fun _ => 0))), (q3, .inl (ca g 0, 6, .inl (fun _ => 0))), (q4, .inl (ca g 0, 48, .inl (fun _ => 0))), (q5, .inl (ca g 0, 4, .inl (fun _ => 0)))] H := hP
  have hD : va_D A [(h0, .inr (2, [.ref q1, .ref q2, .ref q3, .ref q4, .ref q5, .int 0, .int 0, .int 0, .int 0, .int 0])), (q1, .inl (ca g 0, 6, .inl (fun _ => 0))), (q2, .inl (ca g 0, 6, .inl (fun _ => 0))), (q3, .inl (ca g 0, 6, .inl (fun _ => 0))), (q4, .inl (ca g 0, 48, .inl (fun _ => 0))), (q5, .inl (ca g 0, 4, .inl (fun _ => 0)))] := hD
  refine lv_iconst (v := 0) hx hb dX2_init_43 (by decide) ?_
  refine lv_istore_n (lv' := [(1, .int 0), (0, .ref h0)]) hx hb dX2_init_44 rfl hl (by decide) rfl (fun ls hl => ?_)
  refine lv_iload_n hx hb dX2_init_45 rfl (lv_at hl 0 rfl) ?_
  refine lv_bipush (v := 6) hx hb dX2_init_46 (by decide) ?_
  refine lv_icmp_ge (tgt := 72) hx hb dX2_init_48 (by decide) (fun c6 => absurd c6 (by decide)) (fun _ => ?_)
  refine lv_aload_n hx hb dX2_init_51 rfl (lv_at hl 1 rfl) ?_
  refine va_get (D := g.1) (C := RX2) (T := TX2) (N := 10) hx hb hts inA_2 hown hK hP 0 rfl rfl 0 (by decide) (hts _ mw_112) (fun _ h9 => h9) (v := .ref q1) rfl dX2_init_52 ?_
  refine lv_iload_n hx hb dX2_init_55 rfl (lv_at hl 0 rfl) ?_
  refine lv_bipush (v := 17) hx hb dX2_init_56 (by decide) ?_
  refine va_iast hx hb hK hP hD hS 1 0 rfl rfl (i := 0) (x := 17) (by unfold vp_in; decide) dX2_init_58 (fun H locs hP hD hS => ?_)
  have hP : va_P g.1 vwCl [(h0, .inr (2, [.ref q1, .ref q2, .ref q3, .ref q4, .ref q5, .int 0, .int 0, .int 0, .int 0, .int 0])), (q1, .inl (ca g 0, 6, .inl (upd (fun _ => 0) 0 17))), (q2, .inl (ca g 0, 6, .inl (fun _ => 0))), (q3, .inl (ca g 0, 6, .inl (fun _ => 0))), (q4, .inl (ca g 0, 48, .inl (fun _ => 0))), (q5, .inl (ca g 0, 4, .inl (fun _ => 0)))] H := hP
  have hD : va_D A [(h0, .inr (2, [.ref q1, .ref q2, .ref q3, .ref q4, .ref q5, .int 0, .int 0, .int 0, .int 0, .int 0])), (q1, .inl (ca g 0, 6, .inl (upd (fun _ => 0) 0 17))), (q2, .inl (ca g 0, 6, .inl (fun _ => 0))), (q3, .inl (ca g 0, 6, .inl (fun _ => 0))), (q4, .inl (ca g 0, 48, .inl (fun _ => 0))), (q5, .inl (ca g 0, 4, .inl (fun _ => 0)))] := hD
  refine lv_aload_n hx hb dX2_init_59 rfl (lv_at hl 1 rfl) ?_
  refine va_get (D := g.1) (C := RX2) (T := TX2) (N := 10) hx hb hts inA_2 hown hK hP 0 rfl rfl 2 (by decide) (hts _ mw_118) (fun _ h9 => h9) (v := .ref q3) rfl dX2_init_60 ?_
  refine lv_iload_n hx hb dX2_init_63 rfl (lv_at hl 0 rfl) ?_
  refine lv_iconst (v := 2) hx hb dX2_init_64 (by decide) ?_
  refine va_iast hx hb hK hP hD hS 3 0 rfl rfl (i := 0) (x := 2) (by unfold vp_in; decide) dX2_init_65 (fun H locs hP hD hS => ?_)
  have hP : va_P g.1 vwCl [(h0, .inr (2, [.ref q1, .ref q2, .ref q3, .ref q4, .ref q5, .int 0, .int 0, .int 0, .int 0, .int 0])), (q1, .inl (ca g 0, 6, .inl (upd (fun _ => 0) 0 17))), (q2, .inl (ca g 0, 6, .inl (fun _ => 0))), (q3, .inl (ca g 0, 6, .inl (upd (fun _ => 0) 0 2))), (q4, .inl (ca g 0, 48, .inl (fun _ => 0))), (q5, .inl (ca g 0, 4, .inl (fun _ => 0)))] H := hP
  have hD : va_D A [(h0, .inr (2, [.ref q1, .ref q2, .ref q3, .ref q4, .ref q5, .int 0, .int 0, .int 0, .int 0, .int 0])), (q1, .inl (ca g 0, 6, .inl (upd (fun _ => 0) 0 17))), (q2, .inl (ca g 0, 6, .inl (fun _ => 0))), (q3, .inl (ca g 0, 6, .inl (upd (fun _ => 0) 0 2))), (q4, .inl (ca g 0, 48, .inl (fun _ => 0))), (q5, .inl (ca g 0, 4, .inl (fun _ => 0)))] := hD
  refine lv_iinc (v := 1) (lv' := [(1, .int 1), (0, .ref h0)]) hx hb dX2_init_66 hl (k := 0) rfl (by decide) (by decide) rfl (fun ls hl => ?_)
  refine lv_goto (tgt := 45) hx hb dX2_init_69 (by decide) ?_
  refine lv_iload_n hx hb dX2_init_45 rfl (lv_at hl 0 rfl) ?_
  refine lv_bipush (v := 6) hx hb dX2_init_46 (by decide) ?_
  refine lv_icmp_ge (tgt := 72) hx hb dX2_init_48 (by decide) (fun c7 => absurd c7 (by decide)) (fun _ => ?_)
  refine lv_aload_n hx hb dX2_init_51 rfl (lv_at hl 1 rfl) ?_
  refine va_get (D := g.1) (C := RX2) (T := TX2) (N := 10) hx hb hts inA_2 hown hK hP 0 rfl rfl 0 (by decide) (hts _ mw_112) (fun _ h9 => h9) (v := .ref q1) rfl dX2_init_52 ?_
  refine lv_iload_n hx hb dX2_init_55 rfl (lv_at hl 0 rfl) ?_
  refine lv_bipush (v := 17) hx hb dX2_init_56 (by decide) ?_
  refine va_iast hx hb hK hP hD hS 1 0 rfl rfl (i := 1) (x := 17) (by unfold vp_in; decide) dX2_init_58 (fun H locs hP hD hS => ?_)
  have hP : va_P g.1 vwCl [(h0, .inr (2, [.ref q1, .ref q2, .ref q3, .ref q4, .ref q5, .int 0, .int 0, .int 0, .int 0, .int 0])), (q1, .inl (ca g 0, 6, .inl (upd (upd (fun _ => 0) 0 17) 1 17))), (q2, .inl (ca g 0, 6, .inl (fun _ => 0))), (q3, .inl (ca g 0, 6, .inl (upd (fun _ => 0) 0 2))), (q4, .inl (ca g 0, 48, .inl (fun _ => 0))), (q5, .inl (ca g 0, 4, .inl (fun _ => 0)))] H := hP
  have hD : va_D A [(h0, .inr (2, [.ref q1, .ref q2, .ref q3, .ref q4, .ref q5, .int 0, .int 0, .int 0, .int 0, .int 0])), (q1, .inl (ca g 0, 6, .inl (upd (upd (fun _ => 0) 0 17) 1 17))), (q2, .inl (ca g 0, 6, .inl (fun _ => 0))), (q3, .inl (ca g 0, 6, .inl (upd (fun _ => 0) 0 2))), (q4, .inl (ca g 0, 48, .inl (fun _ => 0))), (q5, .inl (ca g 0, 4, .inl (fun _ => 0)))] := hD
  refine lv_aload_n hx hb dX2_init_59 rfl (lv_at hl 1 rfl) ?_
  refine va_get (D := g.1) (C := RX2) (T := TX2) (N := 10) hx hb hts inA_2 hown hK hP 0 rfl rfl 2 (by decide) (hts _ mw_118) (fun _ h9 => h9) (v := .ref q3) rfl dX2_init_60 ?_
  refine lv_iload_n hx hb dX2_init_63 rfl (lv_at hl 0 rfl) ?_
  refine lv_iconst (v := 2) hx hb dX2_init_64 (by decide) ?_
  refine va_iast hx hb hK hP hD hS 3 0 rfl rfl (i := 1) (x := 2) (by unfold vp_in; decide) dX2_init_65 (fun H locs hP hD hS => ?_)
  have hP : va_P g.1 vwCl [(h0, .inr (2, [.ref q1, .ref q2, .ref q3, .ref q4, .ref q5, .int 0, .int 0, .int 0, .int 0, .int 0])), (q1, .inl (ca g 0, 6, .inl (upd (upd (fun _ => 0) 0 17) 1 17))), (q2, .inl (ca g 0, 6, .inl (fun _ => 0))), (q3, .inl (ca g 0, 6, .inl (upd (upd (fun _ => 0) 0 2) 1 2))), (q4, .inl (ca g 0, 48, .inl (fun _ => 0))), (q5, .inl (ca g 0, 4, .inl (fun _ => 0)))] H := hP
  have hD : va_D A [(h0, .inr (2, [.ref q1, .ref q2, .ref q3, .ref q4, .ref q5, .int 0, .int 0, .int 0, .int 0, .int 0])), (q1, .inl (ca g 0, 6, .inl (upd (upd (fun _ => 0) 0 17) 1 17))), (q2, .inl (ca g 0, 6, .inl (fun _ => 0))), (q3, .inl (ca g 0, 6, .inl (upd (upd (fun _ => 0) 0 2) 1 2))), (q4, .inl (ca g 0, 48, .inl (fun _ => 0))), (q5, .inl (ca g 0, 4, .inl (fun _ => 0)))] := hD
  refine lv_iinc (v := 2) (lv' := [(1, .int 2), (0, .ref h0)]) hx hb dX2_init_66 hl (k := 0) rfl (by decide) (by decide) rfl (fun ls hl => ?_)
  refine lv_goto (tgt := 45) hx hb dX2_init_69 (by decide) ?_
  refine lv_iload_n hx hb dX2_init_45 rfl (lv_at hl 0 rfl) ?_
  refine lv_bipush (v := 6) hx hb dX2_init_46 (by decide) ?_
  refine lv_icmp_ge (tgt := 72) hx hb dX2_init_48 (by decide) (fun c8 => absurd c8 (by decide)) (fun _ => ?_)
  refine lv_aload_n hx hb dX2_init_51 rfl (lv_at hl 1 rfl) ?_
  refine va_get (D := g.1) (C := RX2) (T := TX2) (N := 10) hx hb hts inA_2 hown hK hP 0 rfl rfl 0 (by decide) (hts _ mw_112) (fun _ h9 => h9) (v := .ref q1) rfl dX2_init_52 ?_
  refine lv_iload_n hx hb dX2_init_55 rfl (lv_at hl 0 rfl) ?_
  refine lv_bipush (v := 17) hx hb dX2_init_56 (by decide) ?_
  refine va_iast hx hb hK hP hD hS 1 0 rfl rfl (i := 2) (x := 17) (by unfold vp_in; decide) dX2_init_58 (fun H locs hP hD hS => ?_)
  have hP : va_P g.1 vwCl [(h0, .inr (2, [.ref q1, .ref q2, .ref q3, .ref q4, .ref q5, .int 0, .int 0, .int 0, .int 0, .int 0])), (q1, .inl (ca g 0, 6, .inl (upd (upd (upd (fun _ => 0) 0 17) 1 17) 2 17))), (q2, .inl (ca g 0, 6, .inl (fun _ => 0))), (q3, .inl (ca g 0, 6, .inl (upd (upd (fun _ => 0) 0 2) 1 2))), (q4, .inl (ca g 0, 48, .inl (fun _ => 0))), (q5, .inl (ca g 0, 4, .inl (fun _ => 0)))] H := hP
  have hD : va_D A [(h0, .inr (2, [.ref q1, .ref q2, .ref q3, .ref q4, .ref q5, .int 0, .int 0, .int 0, .int 0, .int 0])), (q1, .inl (ca g 0, 6, .inl (upd (upd (upd (fun _ => 0) 0 17) 1 17) 2 17))), (q2, .inl (ca g 0, 6, .inl (fun _ => 0))), (q3, .inl (ca g 0, 6, .inl (upd (upd (fun _ => 0) 0 2) 1 2))), (q4, .inl (ca g 0, 48, .inl (fun _ => 0))), (q5, .inl (ca g 0, 4, .inl (fun _ => 0)))] := hD
  refine lv_aload_n hx hb dX2_init_59 rfl (lv_at hl 1 rfl) ?_
  refine va_get (D := g.1) (C := RX2) (T := TX2) (N := 10) hx hb hts inA_2 hown hK hP 0 rfl rfl 2 (by decide) (hts _ mw_118) (fun _ h9 => h9) (v := .ref q3) rfl dX2_init_60 ?_
  refine lv_iload_n hx hb dX2_init_63 rfl (lv_at hl 0 rfl) ?_
  refine lv_iconst (v := 2) hx hb dX2_init_64 (by decide) ?_
  refine va_iast hx hb hK hP hD hS 3 0 rfl rfl (i := 2) (x := 2) (by unfold vp_in; decide) dX2_init_65 (fun H locs hP hD hS => ?_)
  have hP : va_P g.1 vwCl [(h0, .inr (2, [.ref q1, .ref q2, .ref q3, .ref q4, .ref q5, .int 0, .int 0, .int 0, .int 0, .int 0])), (q1, .inl (ca g 0, 6, .inl (upd (upd (upd (fun _ => 0) 0 17) 1 17) 2 17))), (q2, .inl (ca g 0, 6, .inl (fun _ => 0))), (q3, .inl (ca g 0, 6, .inl (upd (upd (upd (fun _ => 0) 0 2) 1 2) 2 2))), (q4, .inl (ca g 0, 48, .inl (fun _ => 0))), (q5, .inl (ca g 0, 4, .inl (fun _ => 0)))] H := hP
  have hD : va_D A [(h0, .inr (2, [.ref q1, .ref q2, .ref q3, .ref q4, .ref q5, .int 0, .int 0, .int 0, .int 0, .int 0])), (q1, .inl (ca g 0, 6, .inl (upd (upd (upd (fun _ => 0) 0 17) 1 17) 2 17))), (q2, .inl (ca g 0, 6, .inl (fun _ => 0))), (q3, .inl (ca g 0, 6, .inl (upd (upd (upd (fun _ => 0) 0 2) 1 2) 2 2))), (q4, .inl (ca g 0, 48, .inl (fun _ => 0))), (q5, .inl (ca g 0, 4, .inl (fun _ => 0)))] := hD
  refine lv_iinc (v := 3) (lv' := [(1, .int 3), (0, .ref h0)]) hx hb dX2_init_66 hl (k := 0) rfl (by decide) (by decide) rfl (fun ls hl => ?_)
  refine lv_goto (tgt := 45) hx hb dX2_init_69 (by decide) ?_
  refine lv_iload_n hx hb dX2_init_45 rfl (lv_at hl 0 rfl) ?_
  refine lv_bipush (v := 6) hx hb dX2_init_46 (by decide) ?_
  refine lv_icmp_ge (tgt := 72) hx hb dX2_init_48 (by decide) (fun c9 => absurd c9 (by decide)) (fun _ => ?_)
  refine lv_aload_n hx hb dX2_init_51 rfl (lv_at hl 1 rfl) ?_
  refine va_get (D := g.1) (C := RX2) (T := TX2) (N := 10) hx hb hts inA_2 hown hK hP 0 rfl rfl 0 (by decide) (hts _ mw_112) (fun _ h9 => h9) (v := .ref q1) rfl dX2_init_52 ?_
  refine lv_iload_n hx hb dX2_init_55 rfl (lv_at hl 0 rfl) ?_
  refine lv_bipush (v := 17) hx hb dX2_init_56 (by decide) ?_
  refine va_iast hx hb hK hP hD hS 1 0 rfl rfl (i := 3) (x := 17) (by unfold vp_in; decide) dX2_init_58 (fun H locs hP hD hS => ?_)
  have hP : va_P g.1 vwCl [(h0, .inr (2, [.ref q1, .ref q2, .ref q3, .ref q4, .ref q5, .int 0, .int 0, .int 0, .int 0, .int 0])), (q1, .inl (ca g 0, 6, .inl (upd (upd (upd (upd (fun _ => 0) 0 17) 1 17) 2 17) 3 17))), (q2, .inl (ca g 0, 6, .inl (fun _ => 0))), (q3, .inl (ca g 0, 6, .inl (upd (upd (upd (fun _ => 0) 0 2) 1 2) 2 2))), (q4, .inl (ca g 0, 48, .inl (fun _ => 0))), (q5, .inl (ca g 0, 4, .inl (fun _ => 0)))] H := hP
  have hD : va_D A [(h0, .inr (2, [.ref q1, .ref q2, .ref q3, .ref q4, .ref q5, .int 0, .int 0, .int 0, .int 0, .int 0])), (q1, .inl (ca g 0, 6, .inl (upd (upd (upd (upd (fun _ => 0) 0 17) 1 17) 2 17) 3 17))), (q2, .inl (ca g 0, 6, .inl (fun _ => 0))), (q3, .inl (ca g 0, 6, .inl (upd (upd (upd (fun _ => 0) 0 2) 1 2) 2 2))), (q4, .inl (ca g 0, 48, .inl (fun _ => 0))), (q5, .inl (ca g 0, 4, .inl (fun _ => 0)))] := hD
  refine lv_aload_n hx hb dX2_init_59 rfl (lv_at hl 1 rfl) ?_
  refine va_get (D := g.1) (C := RX2) (T := TX2) (N := 10) hx hb hts inA_2 hown hK hP 0 rfl rfl 2 (by decide) (hts _ mw_118) (fun _ h9 => h9) (v := .ref q3) rfl dX2_init_60 ?_
  refine lv_iload_n hx hb dX2_init_63 rfl (lv_at hl 0 rfl) ?_
  refine lv_iconst (v := 2) hx hb dX2_init_64 (by decide) ?_
  refine va_iast hx hb hK hP hD hS 3 0 rfl rfl (i := 3) (x := 2) (by unfold vp_in; decide) dX2_init_65 (fun H locs hP hD hS => ?_)
  have hP : va_P g.1 vwCl [(h0, .inr (2, [.ref q1, .ref q2, .ref q3, .ref q4, .ref q5, .int 0, .int 0, .int 0, .int 0, .int 0])), (q1, .inl (ca g 0, 6, .inl (upd (upd (upd (upd (fun _ => 0) 0 17) 1 17) 2 17) 3 17))), (q2, .inl (ca g 0, 6, .inl (fun _ => 0))), (q3, .inl (ca g 0, 6, .inl (upd (upd (upd (upd (fun _ => 0) 0 2) 1 2) 2 2) 3 2))), (q4, .inl (ca g 0, 48, .inl (fun _ => 0))), (q5, .inl (ca g 0, 4, .inl (fun _ => 0)))] H := hP
  have hD : va_D A [(h0, .inr (2, [.ref q1, .ref q2, .ref q3, .ref q4, .ref q5, .int 0, .int 0, .int 0, .int 0, .int 0])), (q1, .inl (ca g 0, 6, .inl (upd (upd (upd (upd (fun _ => 0) 0 17) 1 17) 2 17) 3 17))), (q2, .inl (ca g 0, 6, .inl (fun _ => 0))), (q3, .inl (ca g 0, 6, .inl (upd (upd (upd (upd (fun _ => 0) 0 2) 1 2) 2 2) 3 2))), (q4, .inl (ca g 0, 48, .inl (fun _ => 0))), (q5, .inl (ca g 0, 4, .inl (fun _ => 0)))] := hD
  refine lv_iinc (v := 4) (lv' := [(1, .int 4), (0, .ref h0)]) hx hb dX2_init_66 hl (k := 0) rfl (by decide) (by decide) rfl (fun ls hl => ?_)
  refine lv_goto (tgt := 45) hx hb dX2_init_69 (by decide) ?_
  refine lv_iload_n hx hb dX2_init_45 rfl (lv_at hl 0 rfl) ?_
  refine lv_bipush (v := 6) hx hb dX2_init_46 (by decide) ?_
  refine lv_icmp_ge (tgt := 72) hx hb dX2_init_48 (by decide) (fun c10 => absurd c10 (by decide)) (fun _ => ?_)
  refine lv_aload_n hx hb dX2_init_51 rfl (lv_at hl 1 rfl) ?_
  refine va_get (D := g.1) (C := RX2) (T := TX2) (N := 10) hx hb hts inA_2 hown hK hP 0 rfl rfl 0 (by decide) (hts _ mw_112) (fun _ h9 => h9) (v := .ref q1) rfl dX2_init_52 ?_
  refine lv_iload_n hx hb dX2_init_55 rfl (lv_at hl 0 rfl) ?_
  refine lv_bipush (v := 17) hx hb dX2_init_56 (by decide) ?_
  refine va_iast hx hb hK hP hD hS 1 0 rfl rfl (i := 4) (x := 17) (by unfold vp_in; decide) dX2_init_58 (fun H locs hP hD hS => ?_)
  have hP : va_P g.1 vwCl [(h0, .inr (2, [.ref q1, .ref q2, .ref q3, .ref q4, .ref q5, .int 0, .int 0, .int 0, .int 0, .int 0])), (q1, .inl (ca g 0, 6, .inl (upd (upd (upd (upd (upd (fun _ => 0) 0 17) 1 17) 2 17) 3 17) 4 17))), (q2, .inl (ca g 0, 6, .inl (fun _ => 0))), (q3, .inl (ca g 0, 6, .inl (upd (upd (upd (upd (fun _ => 0) 0 2) 1 2) 2 2) 3 2))), (q4, .inl (ca g 0, 48, .inl (fun _ => 0))), (q5, .inl (ca g 0, 4, .inl (fun _ => 0)))] H := hP
  have hD : va_D A [(h0, .inr (2, [.ref q1, .ref q2, .ref q3, .ref q4, .ref q5, .int 0, .int 0, .int 0, .int 0, .int 0])), (q1, .inl (ca g 0, 6, .inl (upd (upd (upd (upd (upd (fun _ => 0) 0 17) 1 17) 2 17) 3 17) 4 17))), (q2, .inl (ca g 0, 6, .inl (fun _ => 0))), (q3, .inl (ca g 0, 6, .inl (upd (upd (upd (upd (fun _ => 0) 0 2) 1 2) 2 2) 3 2))), (q4, .inl (ca g 0, 48, .inl (fun _ => 0))), (q5, .inl (ca g 0, 4, .inl (fun _ => 0)))] := hD
  refine lv_aload_n hx hb dX2_init_59 rfl (lv_at hl 1 rfl) ?_
  refine va_get (D := g.1) (C := RX2) (T := TX2) (N := 10) hx hb hts inA_2 hown hK hP 0 rfl rfl 2 (by decide) (hts _ mw_118) (fun _ h9 => h9) (v := .ref q3) rfl dX2_init_60 ?_
  refine lv_iload_n hx hb dX2_init_63 rfl (lv_at hl 0 rfl) ?_
  refine lv_iconst (v := 2) hx hb dX2_init_64 (by decide) ?_
  refine va_iast hx hb hK hP hD hS 3 0 rfl rfl (i := 4) (x := 2) (by unfold vp_in; decide) dX2_init_65 (fun H locs hP hD hS => ?_)
  have hP : va_P g.1 vwCl [(h0, .inr (2, [.ref q1, .ref q2, .ref q3, .ref q4, .ref q5, .int 0, .int 0, .int 0, .int 0, .int 0])), (q1, .inl (ca g 0, 6, .inl (upd (upd (upd (upd (upd (fun _ => 0) 0 17) 1 17) 2 17) 3 17) 4 17))), (q2, .inl (ca g 0, 6, .inl (fun _ => 0))), (q3, .inl (ca g 0, 6, .inl (upd (upd (upd (upd (upd (fun _ => 0) 0 2) 1 2) 2 2) 3 2) 4 2))), (q4, .inl (ca g 0, 48, .inl (fun _ => 0))), (q5, .inl (ca g 0, 4, .inl (fun _ => 0)))] H := hP
  have hD : va_D A [(h0, .inr (2, [.ref q1, .ref q2, .ref q3, .ref q4, .ref q5, .int 0, .int 0, .int 0, .int 0, .int 0])), (q1, .inl (ca g 0, 6, .inl (upd (upd (upd (upd (upd (fun _ => 0) 0 17) 1 17) 2 17) 3 17) 4 17))), (q2, .inl (ca g 0, 6, .inl (fun _ => 0))), (q3, .inl (ca g 0, 6, .inl (upd (upd (upd (upd (upd (fun _ => 0) 0 2) 1 2) 2 2) 3 2) 4 2))), (q4, .inl (ca g 0, 48, .inl (fun _ => 0))), (q5, .inl (ca g 0, 4, .inl (fun _ => 0)))] := hD
  refine lv_iinc (v := 5) (lv' := [(1, .int 5), (0, .ref h0)]) hx hb dX2_init_66 hl (k := 0) rfl (by decide) (by decide) rfl (fun ls hl => ?_)
  refine lv_goto (tgt := 45) hx hb dX2_init_69 (by decide) ?_
  refine lv_iload_n hx hb dX2_init_45 rfl (lv_at hl 0 rfl) ?_
  refine lv_bipush (v := 6) hx hb dX2_init_46 (by decide) ?_
  refine lv_icmp_ge (tgt := 72) hx hb dX2_init_48 (by decide) (fun c11 => absurd c11 (by decide)) (fun _ => ?_)
  refine lv_aload_n hx hb dX2_init_51 rfl (lv_at hl 1 rfl) ?_
  refine va_get (D := g.1) (C := RX2) (T := TX2) (N := 10) hx hb hts inA_2 hown hK hP 0 rfl rfl 0 (by decide) (hts _ mw_112) (fun _ h9 => h9) (v := .ref q1) rfl dX2_init_52 ?_
  refine lv_iload_n hx hb dX2_init_55 rfl (lv_at hl 0 rfl) ?_
  refine lv_bipush (v := 17) hx hb dX2_init_56 (by decide) ?_
  refine va_iast hx hb hK hP hD hS 1 0 rfl rfl (i := 5) (x := 17) (by unfold vp_in; decide) dX2_init_58 (fun H locs hP hD hS => ?_)
  have hP : va_P g.1 vwCl [(h0, .inr (2, [.ref q1, .ref q2, .ref q3, .ref q4, .ref q5, .int 0, .int 0, .int 0, .int 0, .int 0])), (q1, .inl (ca g 0, 6, .inl (upd (upd (upd (upd (upd (upd (fun _ => 0) 0 17) 1 17) 2 17) 3 17) 4 17) 5 17))), (q2, .inl (ca g 0, 6, .inl (fun _ => 0))), (q3, .inl (ca g 0, 6, .inl (upd (upd (upd (upd (upd (fun _ => 0) 0 2) 1 2) 2 2) 3 2) 4 2))), (q4, .inl (ca g 0, 48, .inl (fun _ => 0))), (q5, .inl (ca g 0, 4, .inl (fun _ => 0)))] H := hP
  have hD : va_D A [(h0, .inr (2, [.ref q1, .ref q2, .ref q3, .ref q4, .ref q5, .int 0, .int 0, .int 0, .int 0, .int 0])), (q1, .inl (ca g 0, 6, .inl (upd (upd (upd (upd (upd (upd (fun _ => 0) 0 17) 1 17) 2 17) 3 17) 4 17) 5 17))), (q2, .inl (ca g 0, 6, .inl (fun _ => 0))), (q3, .inl (ca g 0, 6, .inl (upd (upd (upd (upd (upd (fun _ => 0) 0 2) 1 2) 2 2) 3 2) 4 2))), (q4, .inl (ca g 0, 48, .inl (fun _ => 0))), (q5, .inl (ca g 0, 4, .inl (fun _ => 0)))] := hD
  refine lv_aload_n hx hb dX2_init_59 rfl (lv_at hl 1 rfl) ?_
  refine va_get (D := g.1) (C := RX2) (T := TX2) (N := 10) hx hb hts inA_2 hown hK hP 0 rfl rfl 2 (by decide) (hts _ mw_118) (fun _ h9 => h9) (v := .ref q3) rfl dX2_init_60 ?_
  refine lv_iload_n hx hb dX2_init_63 rfl (lv_at hl 0 rfl) ?_
  refine lv_iconst (v := 2) hx hb dX2_init_64 (by decide) ?_
  refine va_iast hx hb hK hP hD hS 3 0 rfl rfl (i := 5) (x := 2) (by unfold vp_in; decide) dX2_init_65 (fun H locs hP hD hS => ?_)
  have hP : va_P g.1 vwCl [(h0, .inr (2, [.ref q1, .ref q2, .ref q3, .ref q4, .ref q5, .int 0, .int 0, .int 0, .int 0, .int 0])), (q1, .inl (ca g 0, 6, .inl (upd (upd (upd (upd (upd (upd (fun _ => 0) 0 17) 1 17) 2 17) 3 17) 4 17) 5 17))), (q2, .inl (ca g 0, 6, .inl (fun _ => 0))), (q3, .inl (ca g 0, 6, .inl (upd (upd (upd (upd (upd (upd (fun _ => 0) 0 2) 1 2) 2 2) 3 2) 4 2) 5 2))), (q4, .inl (ca g 0, 48, .inl (fun _ => 0))), (q5, .inl (ca g 0, 4, .inl (fun _ => 0)))] H := hP
  have hD : va_D A [(h0, .inr (2, [.ref q1, .ref q2, .ref q3, .ref q4, .ref q5, .int 0, .int 0, .int 0, .int 0, .int 0])), (q1, .inl (ca g 0, 6, .inl (upd (upd (upd (upd (upd (upd (fun _ => 0) 0 17) 1 17) 2 17) 3 17) 4 17) 5 17))), (q2, .inl (ca g 0, 6, .inl (fun _ => 0))), (q3, .inl (ca g 0, 6, .inl (upd (upd (upd (upd (upd (upd (fun _ => 0) 0 2) 1 2) 2 2) 3 2) 4 2) 5 2))), (q4, .inl (ca g 0, 48, .inl (fun _ => 0))), (q5, .inl (ca g 0, 4, .inl (fun _ => 0)))] := hD
  refine lv_iinc (v := 6) (lv' := [(1, .int 6), (0, .ref h0)]) hx hb dX2_init_66 hl (k := 0) rfl (by decide) (by decide) rfl (fun ls hl => ?_)
  refine lv_goto (tgt := 45) hx hb dX2_init_69 (by decide) ?_
  refine lv_iload_n hx hb dX2_init_45 rfl (lv_at hl 0 rfl) ?_
  refine lv_bipush (v := 6) hx hb dX2_init_46 (by decide) ?_
  refine lv_icmp_ge (tgt := 72) hx hb dX2_init_48 (by decide) (fun _ => ?_) (fun c12 => absurd (by decide) c12)
  refine lv_iconst (v := 0) hx hb dX2_init_72 (by decide) ?_
  refine lv_istore_n (lv' := [(1, .int 0), (0, .ref h0)]) hx hb dX2_init_73 rfl hl (by decide) rfl (fun ls hl => ?_)
  refine lv_iload_n hx hb dX2_init_74 rfl (lv_at hl 0 rfl) ?_
  refine lv_iconst (v := 4) hx hb dX2_init_75 (by decide) ?_
  refine lv_icmp_ge (tgt := 96) hx hb dX2_init_76 (by decide) (fun c13 => absurd c13 (by decide)) (fun _ => ?_)
  refine lv_aload_n hx hb dX2_init_79 rfl (lv_at hl 1 rfl) ?_
  refine va_get (D := g.1) (C := RX2) (T := TX2) (N := 10) hx hb hts inA_2 hown hK hP 0 rfl rfl 4 (by decide) (hts _ mw_124) (fun _ h9 => h9) (v := .ref q5) rfl dX2_init_80 ?_
  refine lv_iload_n hx hb dX2_init_83 rfl (lv_at hl 0 rfl) ?_
  refine va_getsN hx hb ((Y.2.2.2.2.1.2.1.2.1).1.narrow hAg) hS hown (va_Nw.use rfl (Y.2.2.2.2.1.2.2.1.2.1)) (fun x h9 => h9) dX2_init_84 ?_
  refine lv_iload_n hx hb dX2_init_87 rfl (lv_at hl 0 rfl) ?_
  refine va_ti hx hb ((Y.2.2.2.2.1.2.1.2.1).2.narrow hAg) hS (i := 0) (by unfold vp_in; decide) (v := .int 1) rfl dX2_init_88 ?_
  refine va_iast hx hb hK hP hD hS 5 0 rfl rfl (i := 0) (x := 1) (by unfold vp_in; decide) dX2_init_89 (fun H locs hP hD hS => ?_)
  have hP : va_P g.1 vwCl [(h0, .inr (2, [.ref q1, .ref q2, .ref q3, .ref q4, .ref q5, .int 0, .int 0, .int 0, .int 0, .int 0])), (q1, .inl (ca g 0, 6, .inl (upd (upd (upd (upd (upd (upd (fun _ => 0) 0 17) 1 17) 2 17) 3 17) 4 17) 5 17))), (q2, .inl (ca g 0, 6, .inl (fun _ => 0))), (q3, .inl (ca g 0, 6, .inl (upd (upd (upd (upd (upd (upd (fun _ => 0) 0 2) 1 2) 2 2) 3 2) 4 2) 5 2))), (q4, .inl (ca g 0, 48, .inl (fun _ => 0))), (q5, .inl (ca g 0, 4, .inl (upd (fun _ => 0) 0 1)))] H := hP
  have hD : va_D A [(h0, .inr (2, [.ref q1, .ref q2, .ref q3, .ref q4, .ref q5, .int 0, .int 0, .int 0, .int 0, .int 0])), (q1, .inl (ca g 0, 6, .inl (upd (upd (upd (upd (upd (upd (fun _ => 0) 0 17) 1 17) 2 17) 3 17) 4 17) 5 17))), (q2, .inl (ca g 0, 6, .inl (fun _ => 0))), (q3, .inl (ca g 0, 6, .inl (upd (upd (upd (upd (upd (upd (fun _ => 0) 0 2) 1 2) 2 2) 3 2) 4 2) 5 2))), (q4, .inl (ca g 0, 48, .inl (fun _ => 0))), (q5, .inl (ca g 0, 4, .inl (upd (fun _ => 0) 0 1)))] := hD
  refine lv_iinc (v := 1) (lv' := [(1, .int 1), (0, .ref h0)]) hx hb dX2_init_90 hl (k := 0) rfl (by decide) (by decide) rfl (fun ls hl => ?_)
  refine lv_goto (tgt := 74) hx hb dX2_init_93 (by decide) ?_
  refine lv_iload_n hx hb dX2_init_74 rfl (lv_at hl 0 rfl) ?_
  refine lv_iconst (v := 4) hx hb dX2_init_75 (by decide) ?_
  refine lv_icmp_ge (tgt := 96) hx hb dX2_init_76 (by decide) (fun c14 => absurd c14 (by decide)) (fun _ => ?_)
  refine lv_aload_n hx hb dX2_init_79 rfl (lv_at hl 1 rfl) ?_
  refine va_get (D := g.1) (C := RX2) (T := TX2) (N := 10) hx hb hts inA_2 hown hK hP 0 rfl rfl 4 (by decide) (hts _ mw_124) (fun _ h9 => h9) (v := .ref q5) rfl dX2_init_80 ?_
  refine lv_iload_n hx hb dX2_init_83 rfl (lv_at hl 0 rfl) ?_
  refine va_getsN hx hb ((Y.2.2.2.2.1.2.1.2.1).1.narrow hAg) hS hown (va_Nw.use rfl (Y.2.2.2.2.1.2.2.1.2.1)) (fun x h9 => h9) dX2_init_84 ?_
  refine lv_iload_n hx hb dX2_init_87 rfl (lv_at hl 0 rfl) ?_
  refine va_ti hx hb ((Y.2.2.2.2.1.2.1.2.1).2.narrow hAg) hS (i := 1) (by unfold vp_in; decide) (v := .int 840) rfl dX2_init_88 ?_
  refine va_iast hx hb hK hP hD hS 5 0 rfl rfl (i := 1) (x := 840) (by unfold vp_in; decide) dX2_init_89 (fun H locs hP hD hS => ?_)
  have hP : va_P g.1 vwCl [(h0, .inr (2, [.ref q1, .ref q2, .ref q3, .ref q4, .ref q5, .int 0, .int 0, .int 0, .int 0, .int 0])), (q1, .inl (ca g 0, 6, .inl (upd (upd (upd (upd (upd (upd (fun _ => 0) 0 17) 1 17) 2 17) 3 17) 4 17) 5 17))), (q2, .inl (ca g 0, 6, .inl (fun _ => 0))), (q3, .inl (ca g 0, 6, .inl (upd (upd (upd (upd (upd (upd (fun _ => 0) 0 2) 1 2) 2 2) 3 2) 4 2) 5 2))), (q4, .inl (ca g 0, 48, .inl (fun _ => 0))), (q5, .inl (ca g 0, 4, .inl (upd (upd (fun _ => 0) 0 1) 1 840)))] H := hP
  have hD : va_D A [(h0, .inr (2, [.ref q1, .ref q2, .ref q3, .ref q4, .ref q5, .int 0, .int 0, .int 0, .int 0, .int 0])), (q1, .inl (ca g 0, 6, .inl (upd (upd (upd (upd (upd (upd (fun _ => 0) 0 17) 1 17) 2 17) 3 17) 4 17) 5 17))), (q2, .inl (ca g 0, 6, .inl (fun _ => 0))), (q3, .inl (ca g 0, 6, .inl (upd (upd (upd (upd (upd (upd (fun _ => 0) 0 2) 1 2) 2 2) 3 2) 4 2) 5 2))), (q4, .inl (ca g 0, 48, .inl (fun _ => 0))), (q5, .inl (ca g 0, 4, .inl (upd (upd (fun _ => 0) 0 1) 1 840)))] := hD
  refine lv_iinc (v := 2) (lv' := [(1, .int 2), (0, .ref h0)]) hx hb dX2_init_90 hl (k := 0) rfl (by decide) (by decide) rfl (fun ls hl => ?_)
  refine lv_goto (tgt := 74) hx hb dX2_init_93 (by decide) ?_
  refine lv_iload_n hx hb dX2_init_74 rfl (lv_at hl 0 rfl) ?_
  refine lv_iconst (v := 4) hx hb dX2_init_75 (by decide) ?_
  refine lv_icmp_ge (tgt := 96) hx hb dX2_init_76 (by decide) (fun c15 => absurd c15 (by decide)) (fun _ => ?_)
  refine lv_aload_n hx hb dX2_init_79 rfl (lv_at hl 1 rfl) ?_
  refine va_get (D := g.1) (C := RX2) (T := TX2) (N := 10) hx hb hts inA_2 hown hK hP 0 rfl rfl 4 (by decide) (hts _ mw_124) (fun _ h9 => h9) (v := .ref q5) rfl dX2_init_80 ?_
  refine lv_iload_n hx hb dX2_init_83 rfl (lv_at hl 0 rfl) ?_
  refine va_getsN hx hb ((Y.2.2.2.2.1.2.1.2.1).1.narrow hAg) hS hown (va_Nw.use rfl (Y.2.2.2.2.1.2.2.1.2.1)) (fun x h9 => h9) dX2_init_84 ?_
  refine lv_iload_n hx hb dX2_init_87 rfl (lv_at hl 0 rfl) ?_
  refine va_ti hx hb ((Y.2.2.2.2.1.2.1.2.1).2.narrow hAg) hS (i := 2) (by unfold vp_in; decide) (v := .int 4) rfl dX2_init_88 ?_
  refine va_iast hx hb hK hP hD hS 5 0 rfl rfl (i := 2) (x := 4) (by unfold vp_in; decide) dX2_init_89 (fun H locs hP hD hS => ?_)
  have hP : va_P g.1 vwCl [(h0, .inr (2, [.ref q1, .ref q2, .ref q3, .ref q4, .ref q5, .int 0, .int 0, .int 0, .int 0, .int 0])), (q1, .inl (ca g 0, 6, .inl (upd (upd (upd (upd (upd (upd (fun _ => 0) 0 17) 1 17) 2 17) 3 17) 4 17) 5 17))), (q2, .inl (ca g 0, 6, .inl (fun _ => 0))), (q3, .inl (ca g 0, 6, .inl (upd (upd (upd (upd (upd (upd (fun _ => 0) 0 2) 1 2) 2 2) 3 2) 4 2) 5 2))), (q4, .inl (ca g 0, 48, .inl (fun _ => 0))), (q5, .inl (ca g 0, 4, .inl (upd (upd (upd (fun _ => 0) 0 1) 1 840) 2 4)))] H := hP
  have hD : va_D A [(h0, .inr (2, [.ref q1, .ref q2, .ref q3, .ref q4, .ref q5, .int 0, .int 0, .int 0, .int 0, .int 0])), (q1, .inl (ca g 0, 6, .inl (upd (upd (upd (upd (upd (upd (fun _ => 0) 0 17) 1 17) 2 17) 3 17) 4 17) 5 17))), (q2, .inl (ca g 0, 6, .inl (fun _ => 0))), (q3, .inl (ca g 0, 6, .inl (upd (upd (upd (upd (upd (upd (fun _ => 0) 0 2) 1 2) 2 2) 3 2) 4 2) 5 2))), (q4, .inl (ca g 0, 48, .inl (fun _ => 0))), (q5, .inl (ca g 0, 4, .inl (upd (upd (upd (fun _ => 0) 0 1) 1 840) 2 4)))] := hD
  refine lv_iinc (v := 3) (lv' := [(1, .int 3), (0, .ref h0)]) hx hb dX2_init_90 hl (k := 0) rfl (by decide) (by decide) rfl (fun ls hl => ?_)
  refine lv_goto (tgt := 74) hx hb dX2_init_93 (by decide) ?_
  refine lv_iload_n hx hb dX2_init_74 rfl (lv_at hl 0 rfl) ?_
  refine lv_iconst (v := 4) hx hb dX2_init_75 (by decide) ?_
  refine lv_icmp_ge (tgt := 96) hx hb dX2_init_76 (by decide) (fun c16 => absurd c16 (by decide)) (fun _ => ?_)
  refine lv_aload_n hx hb dX2_init_79 rfl (lv_at hl 1 rfl) ?_
  refine va_get (D := g.1) (C := RX2) (T := TX2) (N := 10) hx hb hts inA_2 hown hK hP 0 rfl rfl 4 (by decide) (hts _ mw_124) (fun _ h9 => h9) (v := .ref q5) rfl dX2_init_80 ?_
  refine lv_iload_n hx hb dX2_init_83 rfl (lv_at hl 0 rfl) ?_
  refine va_getsN hx hb ((Y.2.2.2.2.1.2.1.2.1).1.narrow hAg) hS hown (va_Nw.use rfl (Y.2.2.2.2.1.2.2.1.2.1)) (fun x h9 => h9) dX2_init_84 ?_
  refine lv_iload_n hx hb dX2_init_87 rfl (lv_at hl 0 rfl) ?_
  refine va_ti hx hb ((Y.2.2.2.2.1.2.1.2.1).2.narrow hAg) hS (i := 3) (by unfold vp_in; decide) (v := .int 10) rfl dX2_init_88 ?_
  refine va_iast hx hb hK hP hD hS 5 0 rfl rfl (i := 3) (x := 10) (by unfold vp_in; decide) dX2_init_89 (fun H locs hP hD hS => ?_)
  have hP : va_P g.1 vwCl [(h0, .inr (2, [.ref q1, .ref q2, .ref q3, .ref q4, .ref q5, .int 0, .int 0, .int 0, .int 0, .int 0])), (q1, .inl (ca g 0, 6, .inl (upd (upd (upd (upd (upd (upd (fun _ => 0) 0 17) 1 17) 2 17) 3 17) 4 17) 5 17))), (q2, .inl (ca g 0, 6, .inl (fun _ => 0))), (q3, .inl (ca g 0, 6, .inl (upd (upd (upd (upd (upd (upd (fun _ => 0) 0 2) 1 2) 2 2) 3 2) 4 2) 5 2))), (q4, .inl (ca g 0, 48, .inl (fun _ => 0))), (q5, .inl (ca g 0, 4, .inl (upd (upd (upd (upd (fun _ => 0) 0 1) 1 840) 2 4) 3 10)))] H := hP
  have hD : va_D A [(h0, .inr (2, [.ref q1, .ref q2, .ref q3, .ref q4, .ref q5, .int 0, .int 0, .int 0, .int 0, .int 0])), (q1, .inl (ca g 0, 6, .inl (upd (upd (upd (upd (upd (upd (fun _ => 0) 0 17) 1 17) 2 17) 3 17) 4 17) 5 17))), (q2, .inl (ca g 0, 6, .inl (fun _ => 0))), (q3, .inl (ca g 0, 6, .inl (upd (upd (upd (upd (upd (upd (fun _ => 0) 0 2) 1 2) 2 2) 3 2) 4 2) 5 2))), (q4, .inl (ca g 0, 48, .inl (fun _ => 0))), (q5, .inl (ca g 0, 4, .inl (upd (upd (upd (upd (fun _ => 0) 0 1) 1 840) 2 4) 3 10)))] := hD
  refine lv_iinc (v := 4) (lv' := [(1, .int 4), (0, .ref h0)]) hx hb dX2_init_90 hl (k := 0) rfl (by decide) (by decide) rfl (fun ls hl => ?_)
  refine lv_goto (tgt := 74) hx hb dX2_init_93 (by decide) ?_
  refine lv_iload_n hx hb dX2_init_74 rfl (lv_at hl 0 rfl) ?_
  refine lv_iconst (v := 4) hx hb dX2_init_75 (by decide) ?_
  refine lv_icmp_ge (tgt := 96) hx hb dX2_init_76 (by decide) (fun _ => ?_) (fun c17 => absurd (by decide) c17)
  refine W.widen (k := 5) (n := 70) (Nat.le_of_ble_eq_true rfl) (Nat.le_of_ble_eq_true rfl) ?_
  exact W.vret hx hb hr (fun t ht hW => ⟨⟨(), rfl, trivial, q1, q2, q3, q4, q5, by rw [ht]; exact hP, hD⟩, hS.F ht⟩) hS.2.2 dX2_init_96 hlocks
abbrev rmi_X1_init : Room := { frames := 2, cells := 11, slots := 238, locals := 37 }
set_option maxRecDepth 100000 in
set_option maxHeartbeats 16000000 in
theorem ci_X1_init (l : Launch) (g : gG) (h0 sz : Nat) : Met l yX1_init (Cond.code yX1_init cX1_init 1 none :: ALLW) rmi_X1_init (IPre g sz h0 (.inr (1, [.null, .null, .null, .null, .null, .null]))) (va_Qv (fun _ : Unit => True) (fun _ t => ∃ q1 q2 q3 q4 q5 q6 q7 q8 q9 q10 q11 : Nat, va_P g.1 vwCl [(h0, .inr (1, [.ref q1, .ref q7, .ref q8, .ref q9, .ref q10, .ref q11])), (q1, .inr (2, [.ref q2, .ref q3, .ref q4, .ref q5, .ref q6, .int 0, .int 0, .int 0, .int 0, .int 0])), (q2, .inl (ca g 0, 6, .inl (upd (upd (upd (upd (upd (upd (fun _ => 0) 0 17) 1 17) 2 17) 3 17) 4 17) 5 17))), (q3, .inl (ca g 0, 6, .inl (fun _ => 0))), (q4, .inl (ca g 0, 6, .inl (upd (upd (upd (upd (upd (upd (fun _ => 0) 0 2) 1 2) 2 2) 3 2) 4 2) 5 2))), (q5, .inl (ca g 0, 48, .inl (fun _ => 0))), (q6, .inl (ca g 0, 4, .inl (upd (upd (upd (upd (fun _ => 0) 0 1) 1 840) 2 4) 3 10))), (q7, .inl (ca g 0, 48, .inl (fun _ => 0))), (q8, .inl (ca g 0, 48, .inl (fun _ => 0))), (q9, .inl (ca g 0, 48, .inl (fun _ => 0))), (q10, .inl (ca g 1, 6, .inl (fun _ => 0))), (q11, .inr (4, [.int 0, .int 0, .int 0, .int 0, .int 0, .int 0, .int 0, .int 0]))] t.heap ∧ va_D (va_A [(h0, .inr (1, [.null, .null, .null, .null, .null, .null]))] sz) [(h0, .inr (1, [.ref q1, .ref q7, .ref q8, .ref q9, .ref q10, .ref q11])), (q1, .inr (2, [.ref q2, .ref q3, .ref q4, .ref q5, .ref q6, .int 0, .int 0, .int 0, .int 0, .int 0])), (q2, .inl (ca g 0, 6, .inl (upd (upd (upd (upd (upd (upd (fun _ => 0) 0 17) 1 17) 2 17) 3 17) 4 17) 5 17))), (q3, .inl (ca g 0, 6, .inl (fun _ => 0))), (q4, .inl (ca g 0, 6, .inl (upd (upd (upd (upd (upd (upd (fun _ => 0) 0 2) 1 2) 2 2) 3 2) 4 2) 5 2))), (q5, .inl (ca g 0, 48, .inl (fun _ => 0))), (q6, .inl (ca g 0, 4, .inl (upd (upd (upd (upd (fun _ => 0) 0 1) 1 840) 2 4) 3 10))), (q7, .inl (ca g 0, 48, .inl (fun _ => 0))), (q8, .inl (ca g 0, 48, .inl (fun _ => 0))), (q9, .inl (ca g 0, 48, .inl (fun _ => 0))), (q10, .inl (ca g 1, 6, .inl (fun _ => 0))), (q11, .inr (4, [.int 0, .int 0, .int 0, .int 0, .int 0, .int 0, .int 0, .int 0]))]) (va_A [(h0, .inr (1, [.null, .null, .null, .null, .null, .null]))] sz)) 11 238 (va_A [(h0, .inr (1, [.null, .null, .null, .null, .null, .null]))] sz) := by
  refine Met.ofW (cc := cX1_init) (maxL := 1) (ret := none) (by decide) rfl ?_
  intro p e s m args below meth c s₁ B hml hv
  obtain ⟨ha, hFx, hsz, hal, hlo, hO, hP⟩ := hv
  have Y : Ci g p s m args c meth RX1 cX1_init := Ci_of hFx B
  have hx := Y.1
  have hb := Y.2.1
  have hr := B.returns
  have hown := Y.2.2.1
  have hts := Y.2.2.2.1
  have hK := Y.2.2.2.2.1.1
  have hlocks := Y.2.2.2.2.2.1
  have hin : meth.name = "<init>" := (name_of_methodNamed B.named B.method).1
  subst hsz
  have hD := (va_D1 h0 (.inr (1, [.null, .null, .null, .null, .null, .null]))).self (sz := s.heap.size)
  have hAg : ∀ q, va_A [(h0, .inr (1, [.null, .null, .null, .null, .null, .null]))] s.heap.size q → gA g q := i_Ag hal hlo
  rw [ha, lg_entry_eq]
  have hl := lv_entry ([.ref h0] : List Value) (n := 1) (Nat.le_of_ble_eq_true rfl)
  generalize (lg_sl ([.ref h0] : List Value) ++ List.replicate (1 - (lg_sl ([.ref h0] : List Value)).length) Slot.unset).toArray = ls at hl ⊢
  have hl : lv_has ls 1 [(0, .ref h0)] := hl
  rw [← ha]
  generalize hAe : va_A [(h0, .inr (1, [.null, .null, .null, .null, .null, .null]))] s.heap.size = A at hD hAg ⊢
  have hA : ∀ q : Nat, s.heap.size ≤ q → A q := fun q h => by rw [← hAe]; exact Or.inr h
  have hS : va_S A s.heap s.heap [] := va_S.rf
  show W p l e rmi_X1_init s m args below meth c s.heap [] 0 0 _ (F0 m 0 ls [])
  refine lv_aload_n hx hb dX1_init_0 rfl (lv_at hl 0 rfl) ?_
  refine W.objInit hx hb hown (hts _ mw_103) (hts _ mw_96) (hts _ mw_97) rfl (by rw [hml]; exact hl.1) rfl dX1_init_1 (Nat.le_of_ble_eq_true rfl) (Nat.le_of_ble_eq_true rfl) ?_
  refine W.eq (g2 := F0 m 4 ls []) rfl ?_
  refine lv_aload_n hx hb dX1_init_4 rfl (lv_at hl 0 rfl) ?_
  refine va_new (ci := 2) (fs := [.null, .null, .null, .null, .null, .int 0, .int 0, .int 0, .int 0, .int 0]) (C := RX2) (T := TX2) (N := 10) hx hb hts inA_2 tyX2 tyX2_ok hown (hts _ mw_104) (hts _ mw_105) (hts _ mw_69) hK hP hD hS hA rfl (fun j hj => by rcases (show j = 0 ∨ j = 1 ∨ j = 2 ∨ j = 3 ∨ j = 4 ∨ j = 5 ∨ j = 6 ∨ j = 7 ∨ j = 8 ∨ j = 9 by omega) with rfl | rfl | rfl | rfl | rfl | rfl | rfl | rfl | rfl | rfl <;> rfl) (Nat.le_of_ble_eq_true rfl) (Nat.le_of_ble_eq_true rfl) dX1_init_5 (fun q1 H hP hD hS => ?_)
  have hP : va_P g.1 vwCl [(h0, .inr (1, [.null, .null, .null, .null, .null, .null])), (q1, .inr (2, [.null, .null, .null, .null, .null, .int 0, .int 0, .int 0, .int 0, .int 0]))] H := hP
  have hD : va_D A [(h0, .inr (1, [.null, .null, .null, .null, .null, .null])), (q1, .inr (2, [.null, .null, .null, .null, .null, .int 0, .int 0, .int 0, .int 0, .int 0]))] := hD
  refine lv_dup hx hb dX1_init_8 rfl ?_
  have hPc := hP.sub (ws' := [(q1, .inr (2, [.null, .null, .null, .null, .null, .int 0, .int 0, .int 0, .int 0, .int 0]))]) [1] rfl
  have hFc := va_free (wc := [(q1, .inr (2, [.null, .null, .null, .null, .null, .int 0, .int 0, .int 0, .int 0, .int 0]))]) hD hS hA [1] rfl
  refine k_init (Bp := fun Hh => ∃ q2 q3 q4 q5 q6 : Nat, va_P g.1 vwCl [(q1, .inr (2, [.ref q2, .ref q3, .ref q4, .ref q5, .ref q6, .int 0, .int 0, .int 0, .int 0, .int 0])), (q2, .inl (ca g 0, 6, .inl (upd (upd (upd (upd (upd (upd (fun _ => 0) 0 17) 1 17) 2 17) 3 17) 4 17) 5 17))), (q3, .inl (ca g 0, 6, .inl (fun _ => 0))), (q4, .inl (ca g 0, 6, .inl (upd (upd (upd (upd (upd (upd (fun _ => 0) 0 2) 1 2) 2 2) 3 2) 4 2) 5 2))), (q5, .inl (ca g 0, 48, .inl (fun _ => 0))), (q6, .inl (ca g 0, 4, .inl (upd (upd (upd (upd (fun _ => 0) 0 1) 1 840) 2 4) 3 10)))] Hh ∧ va_D (va_A [(q1, .inr (2, [.null, .null, .null, .null, .null, .int 0, .int 0, .int 0, .int 0, .int 0]))] H.size) [(q1, .inr (2, [.ref q2, .ref q3, .ref q4, .ref q5, .ref q6, .int 0, .int 0, .int 0, .int 0, .int 0])), (q2, .inl (ca g 0, 6, .inl (upd (upd (upd (upd (upd (upd (fun _ => 0) 0 17) 1 17) 2 17) 3 17) 4 17) 5 17))), (q3, .inl (ca g 0, 6, .inl (fun _ => 0))), (q4, .inl (ca g 0, 6, .inl (upd (upd (upd (upd (upd (upd (fun _ => 0) 0 2) 1 2) 2 2) 3 2) 4 2) 5 2))), (q5, .inl (ca g 0, 48, .inl (fun _ => 0))), (q6, .inl (ca g 0, 4, .inl (upd (upd (upd (upd (fun _ => 0) 0 1) 1 840) 2 4) 3 10)))]) (C1 := [(q1, .inr (2, [.null, .null, .null, .null, .null, .int 0, .int 0, .int 0, .int 0, .int 0]))]) hS (i_runI Y hO hml hl.1 hlo hAg (rest := [.ref q1, .ref h0]) (ci_X2_init l g q1 H.size) hPc hS (hAg _ (hD.2 1 _ rfl)) ⟨mw_106, kwi_X2_init⟩ ⟨⟨rfl, rfl⟩, ko_X2_init, ⟨Nat.le_of_ble_eq_true rfl, Nat.le_of_ble_eq_true rfl⟩⟩ rfl rfl (Nat.le_of_ble_eq_true rfl) dX1_init_9 ⟨Nat.le_of_ble_eq_true rfl, Nat.le_of_ble_eq_true rfl⟩) hFc (fun H1 locs hB hk1 hS => ?_)
  obtain ⟨q2, q3, q4, q5, q6, hP1, hD1⟩ := hB
  obtain ⟨hP, hD⟩ := va_join (wr := [(h0, .inr (1, [.null, .null, .null, .null, .null, .null]))]) (w1 := [(q1, .inr (2, [.ref q2, .ref q3, .ref q4, .ref q5, .ref q6, .int 0, .int 0, .int 0, .int 0, .int 0])), (q2, .inl (ca g 0, 6, .inl (upd (upd (upd (upd (upd (upd (fun _ => 0) 0 17) 1 17) 2 17) 3 17) 4 17) 5 17))), (q3, .inl (ca g 0, 6, .inl (fun _ => 0))), (q4, .inl (ca g 0, 6, .inl (upd (upd (upd (upd (upd (upd (fun _ => 0) 0 2) 1 2) 2 2) 3 2) 4 2) 5 2))), (q5, .inl (ca g 0, 48, .inl (fun _ => 0))), (q6, .inl (ca g 0, 4, .inl (upd (upd (upd (upd (fun _ => 0) 0 1) 1 840) 2 4) 3 10)))]) hP hD [1] [0] rfl rfl (by decide) (by decide) hk1 hFc hP1 hD1
  generalize H1 = H at hP hS ⊢
  have hP : va_P g.1 vwCl [(h0, .inr (1, [.null, .null, .null, .null, .null, .null])), (q1, .inr (2, [.ref q2, .ref q3, .ref q4, .ref q5, .ref q6, .int 0, .int 0, .int 0, .int 0, .int 0])), (q2, .inl (ca g 0, 6, .inl (upd (upd (upd (upd (upd (upd (fun _ => 0) 0 17) 1 17) 2 17) 3 17) 4 17) 5 17))), (q3, .inl (ca g 0, 6, .inl (fun _ => 0))), (q4, .inl (ca g 0, 6, .inl (upd (upd (upd (upd (upd (upd (fun _ => 0) 0 2) 1 2) 2 2) 3 2) 4 2) 5 2))), (q5, .inl (ca g 0, 48, .inl (fun _ => 0))), (q6, .inl (ca g 0, 4, .inl (upd (upd (upd (upd (fun _ => 0) 0 1) 1 840) 2 4) 3 10)))] H := hP
  have hD : va_D A [(h0, .inr (1, [.null, .null, .null, .null, .null, .null])), (q1, .inr (2, [.ref q2, .ref q3, .ref q4, .ref q5, .ref q6, .int 0, .int 0, .int 0, .int 0, .int 0])), (q2, .inl (ca g 0, 6, .inl (upd (upd (upd (upd (upd (upd (fun _ => 0) 0 17) 1 17) 2 17) 3 17) 4 17) 5 17))), (q3, .inl (ca g 0, 6, .inl (fun _ => 0))), (q4, .inl (ca g 0, 6, .inl (upd (upd (upd (upd (upd (upd (fun _ => 0) 0 2) 1 2) 2 2) 3 2) 4 2) 5 2))), (q5, .inl (ca g 0, 48, .inl (fun _ => 0))), (q6, .inl (ca g 0, 4, .inl (upd (upd (upd (upd (fun _ => 0) 0 1) 1 840) 2 4) 3 10)))] := hD
  refine va_putF (D := g.1) (ci := 1) (v := .ref q1) (ty := .object "LitDigits$State") (C := RX1) (T := TX1) (N := 6) hx hb hts inA_1 tyX1 tyX1_ok nmX1 hown hK hP hD hS 0 rfl rfl 0 (by decide) (hts _ mw_193) (fun _ h9 => h9) rfl hin rfl (by decide +kernel) rfl rfl (Nat.le_of_ble_eq_true rfl) dX1_init_12 (fun H locs hP hD hS => ?_)
  have hP : va_P g.1 vwCl [(h0, .inr (1, [.ref q1, .null, .null, .null, .null, .null])), (q1, .inr (2, [.ref q2, .ref q3, .ref q4, .ref q5, .ref q6, .int 0, .int 0, .int 0, .int 0, .int 0])), (q2, .inl (ca g 0, 6, .inl (upd (upd (upd (upd (upd (upd (fun _ => 0) 0 17) 1 17) 2 17) 3 17) 4 17) 5 17))), (q3, .inl (ca g 0, 6, .inl (fun _ => 0))), (q4, .inl (ca g 0, 6, .inl (upd (upd (upd (upd (upd (upd (fun _ => 0) 0 2) 1 2) 2 2) 3 2) 4 2) 5 2))), (q5, .inl (ca g 0, 48, .inl (fun _ => 0))), (q6, .inl (ca g 0, 4, .inl (upd (upd (upd (upd (fun _ => 0) 0 1) 1 840) 2 4) 3 10)))] H := hP
  have hD : va_D A [(h0, .inr (1, [.ref q1, .null, .null, .null, .null, .null])), (q1, .inr (2, [.ref q2, .ref q3, .ref q4, .ref q5, .ref q6, .int 0, .int 0, .int 0, .int 0, .int 0])), (q2, .inl (ca g 0, 6, .inl (upd (upd (upd (upd (upd (upd (fun _ => 0) 0 17) 1 17) 2 17) 3 17) 4 17) 5 17))), (q3, .inl (ca g 0, 6, .inl (fun _ => 0))), (q4, .inl (ca g 0, 6, .inl (upd (upd (upd (upd (upd (upd (fun _ => 0) 0 2) 1 2) 2 2) 3 2) 4 2) 5 2))), (q5, .inl (ca g 0, 48, .inl (fun _ => 0))), (q6, .inl (ca g 0, 4, .inl (upd (upd (upd (upd (fun _ => 0) 0 1) 1 840) 2 4) 3 10)))] := hD
  refine lv_aload_n hx hb dX1_init_15 rfl (lv_at hl 0 rfl) ?_
  refine lv_bipush (v := 48) hx hb dX1_init_16 (by decide) ?_
  refine i_newa Y hP hD hS hA (ty := .int) rfl 0 rfl (fun C => by simp) mw_160 (a0 := (48, .inl (fun _ => 0))) (N' := 48) (fun _ => rfl) (by decide) (by decide) (Nat.le_of_ble_eq_true rfl) (Nat.le_of_ble_eq_true rfl) (Nat.le_of_ble_eq_true rfl) dX1_init_18 (fun q7 H hP hD hS => ?_)
  have hP : va_P g.1 vwCl [(h0, .inr (1, [.ref q1, .null, .null, .null, .null, .null])), (q1, .inr (2, [.ref q2, .ref q3, .ref q4, .ref q5, .ref q6, .int 0, .int 0, .int 0, .int 0, .int 0])), (q2, .inl (ca g 0, 6, .inl (upd (upd (upd (upd (upd (upd (fun _ => 0) 0 17) 1 17) 2 17) 3 17) 4 17) 5 17))), (q3, .inl (ca g 0, 6, .inl (fun _ => 0))), (q4, .inl (ca g 0, 6, .inl (upd (upd (upd (upd (upd (upd (fun _ => 0) 0 2) 1 2) 2 2) 3 2) 4 2) 5 2))), (q5, .inl (ca g 0, 48, .inl (fun _ => 0))), (q6, .inl (ca g 0, 4, .inl (upd (upd (upd (upd (fun _ => 0) 0 1) 1 840) 2 4) 3 10))), (q7, .inl (ca g 0, 48, .inl (fun _ => 0)))] H := hP
  have hD : va_D A [(h0, .inr (1, [.ref q1, .null, .null, .null, .null, .null])), (q1, .inr (2, [.ref q2, .ref q3, .ref q4, .ref q5, .ref q6, .int 0, .int 0, .int 0, .int 0, .int 0])), (q2, .inl (ca g 0, 6, .inl (upd (upd (upd (upd (upd (upd (fun _ => 0) 0 17) 1 17) 2 17) 3 17) 4 17) 5 17))), (q3, .inl (ca g 0, 6, .inl (fun _ => 0))), (q4, .inl (ca g 0, 6, .inl (upd (upd (upd (upd (upd (upd (fun _ => 0) 0 2) 1 2) 2 2) 3 2) 4 2) 5 2))), (q5, .inl (ca g 0, 48, .inl (fun _ => 0))), (q6, .inl (ca g 0, 4, .inl (upd (upd (upd (upd (fun _ => 0) 0 1) 1 840) 2 4) 3 10))), (q7, .inl (ca g 0, 48, .inl (fun _ => 0)))] := hD
  refine va_putF (D := g.1) (ci := 1) (v := .ref q7) (ty := .array .int) (C := RX1) (T := TX1) (N := 6) hx hb hts inA_1 tyX1 tyX1_ok nmX1 hown hK hP hD hS 0 rfl rfl 1 (by decide) (hts _ mw_195) (fun _ h9 => h9) rfl hin rfl (by decide +kernel) rfl rfl (Nat.le_of_ble_eq_true rfl) dX1_init_20 (fun H locs hP hD hS => ?_)
  have hP : va_P g.1 vwCl [(h0, .inr (1, [.ref q1, .ref q7, .null, .null, .null, .null])), (q1, .inr (2, [.ref q2, .ref q3, .ref q4, .ref q5, .ref q6, .int 0, .int 0, .int 0, .int 0, .int 0])), (q2, .inl (ca g 0, 6, .inl (upd (upd (upd (upd (upd (upd (fun _ => 0) 0 17) 1 17) 2 17) 3 17) 4 17) 5 17))), (q3, .inl (ca g 0, 6, .inl (fun _ => 0))), (q4, .inl (ca g 0, 6, .inl (upd (upd (upd (upd (upd (upd (fun _ => 0) 0 2) 1 2) 2 2) 3 2) 4 2) 5 2))), (q5, .inl (ca g 0, 48, .inl (fun _ => 0))), (q6, .inl (ca g 0, 4, .inl (upd (upd (upd (upd (fun _ => 0) 0 1) 1 840) 2 4) 3 10))), (q7, .inl (ca g 0, 48, .inl (fun _ => 0)))] H := hP
  have hD : va_D A [(h0, .inr (1, [.ref q1, .ref q7, .null, .null, .null, .null])), (q1, .inr (2, [.ref q2, .ref q3, .ref q4, .ref q5, .ref q6, .int 0, .int 0, .int 0, .int 0, .int 0])), (q2, .inl (ca g 0, 6, .inl (upd (upd (upd (upd (upd (upd (fun _ => 0) 0 17) 1 17) 2 17) 3 17) 4 17) 5 17))), (q3, .inl (ca g 0, 6, .inl (fun _ => 0))), (q4, .inl (ca g 0, 6, .inl (upd (upd (upd (upd (upd (upd (fun _ => 0) 0 2) 1 2) 2 2) 3 2) 4 2) 5 2))), (q5, .inl (ca g 0, 48, .inl (fun _ => 0))), (q6, .inl (ca g 0, 4, .inl (upd (upd (upd (upd (fun _ => 0) 0 1) 1 840) 2 4) 3 10))), (q7, .inl (ca g 0, 48, .inl (fun _ => 0)))] := hD
  refine lv_aload_n hx hb dX1_init_23 rfl (lv_at hl 0 rfl) ?_
  refine lv_bipush (v := 48) hx hb dX1_init_24 (by decide) ?_
  refine i_newa Y hP hD hS hA (ty := .int) rfl 0 rfl (fun C => by simp) mw_160 (a0 := (48, .inl (fun _ => 0))) (N' := 48) (fun _ => rfl) (by decide) (by decide) (Nat.le_of_ble_eq_true rfl) (Nat.le_of_ble_eq_true rfl) (Nat.le_of_ble_eq_true rfl) dX1_init_26 (fun q8 H hP hD hS => ?_)
  have hP : va_P g.1 vwCl [(h0, .inr (1, [.ref q1, .ref q7, .null, .null, .null, .null])), (q1, .inr (2, [.ref q2, .ref q3, .ref q4, .ref q5, .ref q6, .int 0, .int 0, .int 0, .int 0, .int 0])), (q2, .inl (ca g 0, 6, .inl (upd (upd (upd (upd (upd (upd (fun _ => 0) 0 17) 1 17) 2 17) 3 17) 4 17) 5 17))), (q3, .inl (ca g 0, 6, .inl (fun _ => 0))), (q4, .inl (ca g 0, 6, .inl (upd (upd (upd (upd (upd (upd (fun _ => 0) 0 2) 1 2) 2 2) 3 2) 4 2) 5 2))), (q5, .inl (ca g 0, 48, .inl (fun _ => 0))), (q6, .inl (ca g 0, 4, .inl (upd (upd (upd (upd (fun _ => 0) 0 1) 1 840) 2 4) 3 10))), (q7, .inl (ca g 0, 48, .inl (fun _ => 0))), (q8, .inl (ca g 0, 48, .inl (fun _ => 0)))] H := hP
  have hD : va_D A [(h0, .inr (1, [.ref q1, .ref q7, .null, .null, .null, .null])), (q1, .inr (2, [.ref q2, .ref q3, .ref q4, .ref q5, .ref q6, .int 0, .int 0, .int 0, .int 0, .int 0])), (q2, .inl (ca g 0, 6, .inl (upd (upd (upd (upd (upd (upd (fun _ => 0) 0 17) 1 17) 2 17) 3 17) 4 17) 5 17))), (q3, .inl (ca g 0, 6, .inl (fun _ => 0))), (q4, .inl (ca g 0, 6, .inl (upd (upd (upd (upd (upd (upd (fun _ => 0) 0 2) 1 2) 2 2) 3 2) 4 2) 5 2))), (q5, .inl (ca g 0, 48, .inl (fun _ => 0))), (q6, .inl (ca g 0, 4, .inl (upd (upd (upd (upd (fun _ => 0) 0 1) 1 840) 2 4) 3 10))), (q7, .inl (ca g 0, 48, .inl (fun _ => 0))), (q8, .inl (ca g 0, 48, .inl (fun _ => 0)))] := hD
  refine va_putF (D := g.1) (ci := 1) (v := .ref q8) (ty := .array .int) (C := RX1) (T := TX1) (N := 6) hx hb hts inA_1 tyX1 tyX1_ok nmX1 hown hK hP hD hS 0 rfl rfl 2 (by decide) (hts _ mw_197) (fun _ h9 => h9) rfl hin rfl (by decide +kernel) rfl rfl (Nat.le_of_ble_eq_true rfl) dX1_init_28 (fun H locs hP hD hS => ?_)
  have hP : va_P g.1 vwCl [(h0, .inr (1, [.ref q1, .ref q7, .ref q8, .null, .null, .null])), (q1, .inr (2, [.ref q2, .ref q3, .ref q4, .ref q5, .ref q6, .int 0, .int 0, .int 0, .int 0, .int 0])), (q2, .inl (ca g 0, 6, .inl (upd (upd (upd (upd (upd (upd (fun _ => 0) 0 17) 1 17) 2 17) 3 17) 4 17) 5 17))), (q3, .inl (ca g 0, 6, .inl (fun _ => 0))), (q4, .inl (ca g 0, 6, .inl (upd (upd (upd (upd (upd (upd (fun _ => 0) 0 2) 1 2) 2 2) 3 2) 4 2) 5 2))), (q5, .inl (ca g 0, 48, .inl (fun _ => 0))), (q6, .inl (ca g 0, 4, .inl (upd (upd (upd (upd (fun _ => 0) 0 1) 1 840) 2 4) 3 10))), (q7, .inl (ca g 0, 48, .inl (fun _ => 0))), (q8, .inl (ca g 0, 48, .inl (fun _ => 0)))] H := hP
  have hD : va_D A [(h0, .inr (1, [.ref q1, .ref q7, .ref q8, .null, .null, .null])), (q1, .inr (2, [.ref q2, .ref q3, .ref q4, .ref q5, .ref q6, .int 0, .int 0, .int 0, .int 0, .int 0])), (q2, .inl (ca g 0, 6, .inl (upd (upd (upd (upd (upd (upd (fun _ => 0) 0 17) 1 17) 2 17) 3 17) 4 17) 5 17))), (q3, .inl (ca g 0, 6, .inl (fun _ => 0))), (q4, .inl (ca g 0, 6, .inl (upd (upd (upd (upd (upd (upd (fun _ => 0) 0 2) 1 2) 2 2) 3 2) 4 2) 5 2))), (q5, .inl (ca g 0, 48, .inl (fun _ => 0))), (q6, .inl (ca g 0, 4, .inl (upd (upd (upd (upd (fun _ => 0) 0 1) 1 840) 2 4) 3 10))), (q7, .inl (ca g 0, 48, .inl (fun _ => 0))), (q8, .inl (ca g 0, 48, .inl (fun _ => 0)))] := hD
  refine lv_aload_n hx hb dX1_init_31 rfl (lv_at hl 0 rfl) ?_
  refine lv_bipush (v := 48) hx hb dX1_init_32 (by decide) ?_
  refine i_newa Y hP hD hS hA (ty := .int) rfl 0 rfl (fun C => by simp) mw_160 (a0 := (48, .inl (fun _ => 0))) (N' := 48) (fun _ => rfl) (by decide) (by decide) (Nat.le_of_ble_eq_true rfl) (Nat.le_of_ble_eq_true rfl) (Nat.le_of_ble_eq_true rfl) dX1_init_34 (fun q9 H hP hD hS => ?_)
  have hP : va_P g.1 vwCl [(h0, .inr (1, [.ref q1, .ref q7, .ref q8, .null, .null, .null])), (q1, .inr (2, [.ref q2, .ref q3, .ref q4, .ref q5, .ref q6, .int 0, .int 0, .int 0, .int 0, .int 0])), (q2, .inl (ca g 0, 6, .inl (upd (upd (upd (upd (upd (upd (fun _ => 0) 0 17) 1 17) 2 17) 3 17) 4 17) 5 17))), (q3, .inl (ca g 0, 6, .inl (fun _ => 0))), (q4, .inl (ca g 0, 6, .inl (upd (upd (upd (upd (upd (upd (fun _ => 0) 0 2) 1 2) 2 2) 3 2) 4 2) 5 2))), (q5, .inl (ca g 0, 48, .inl (fun _ => 0))), (q6, .inl (ca g 0, 4, .inl (upd (upd (upd (upd (fun _ => 0) 0 1) 1 840) 2 4) 3 10))), (q7, .inl (ca g 0, 48, .inl (fun _ => 0))), (q8, .inl (ca g 0, 48, .inl (fun _ => 0))), (q9, .inl (ca g 0, 48, .inl (fun _ => 0)))] H := hP
  have hD : va_D A [(h0, .inr (1, [.ref q1, .ref q7, .ref q8, .null, .null, .null])), (q1, .inr (2, [.ref q2, .ref q3, .ref q4, .ref q5, .ref q6, .int 0, .int 0, .int 0, .int 0, .int 0])), (q2, .inl (ca g 0, 6, .inl (upd (upd (upd (upd (upd (upd (fun _ => 0) 0 17) 1 17) 2 17) 3 17) 4 17) 5 17))), (q3, .inl (ca g 0, 6, .inl (fun _ => 0))), (q4, .inl (ca g 0, 6, .inl (upd (upd (upd (upd (upd (upd (fun _ => 0) 0 2) 1 2) 2 2) 3 2) 4 2) 5 2))), (q5, .inl (ca g 0, 48, .inl (fun _ => 0))), (q6, .inl (ca g 0, 4, .inl (upd (upd (upd (upd (fun _ => 0) 0 1) 1 840) 2 4) 3 10))), (q7, .inl (ca g 0, 48, .inl (fun _ => 0))), (q8, .inl (ca g 0, 48, .inl (fun _ => 0))), (q9, .inl (ca g 0, 48, .inl (fun _ => 0)))] := hD
  refine va_putF (D := g.1) (ci := 1) (v := .ref q9) (ty := .array .int) (C := RX1) (T := TX1) (N := 6) hx hb hts inA_1 tyX1 tyX1_ok nmX1 hown hK hP hD hS 0 rfl rfl 3 (by decide) (hts _ mw_199) (fun _ h9 => h9) rfl hin rfl (by decide +kernel) rfl rfl (Nat.le_of_ble_eq_true rfl) dX1_init_36 (fun H locs hP hD hS => ?_)
  have hP : va_P g.1 vwCl [(h0, .inr (1, [.ref q1, .ref q7, .ref q8, .ref q9, .null, .null])), (q1, .inr (2, [.ref q2, .ref q3, .ref q4, .ref q5, .ref q6, .int 0, .int 0, .int 0, .int 0, .int 0])), (q2, .inl (ca g 0, 6, .inl (upd (upd (upd (upd (upd (upd (fun _ => 0) 0 17) 1 17) 2 17) 3 17) 4 17) 5 17))), (q3, .inl (ca g 0, 6, .inl (fun _ => 0))), (q4, .inl (ca g 0, 6, .inl (upd (upd (upd (upd (upd (upd (fun _ => 0) 0 2) 1 2) 2 2) 3 2) 4 2) 5 2))), (q5, .inl (ca g 0, 48, .inl (fun _ => 0))), (q6, .inl (ca g 0, 4, .inl (upd (upd (upd (upd (fun _ => 0) 0 1) 1 840) 2 4) 3 10))), (q7, .inl (ca g 0, 48, .inl (fun _ => 0))), (q8, .inl (ca g 0, 48, .inl (fun _ => 0))), (q9, .inl (ca g 0, 48, .inl (fun _ => 0)))] H := hP
  have hD : va_D A [(h0, .inr (1, [.ref q1, .ref q7, .ref q8, .ref q9, .null, .null])), (q1, .inr (2, [.ref q2, .ref q3, .ref q4, .ref q5, .ref q6, .int 0, .int 0, .int 0, .int 0, .int 0])), (q2, .inl (ca g 0, 6, .inl (upd (upd (upd (upd (upd (upd (fun _ => 0) 0 17) 1 17) 2 17) 3 17) 4 17) 5 17))), (q3, .inl (ca g 0, 6, .inl (fun _ => 0))), (q4, .inl (ca g 0, 6, .inl (upd (upd (upd (upd (upd (upd (fun _ => 0) 0 2) 1 2) 2 2) 3 2) 4 2) 5 2))), (q5, .inl (ca g 0, 48, .inl (fun _ => 0))), (q6, .inl (ca g 0, 4, .inl (upd (upd (upd (upd (fun _ => 0) 0 1) 1 840) 2 4) 3 10))), (q7, .inl (ca g 0, 48, .inl (fun _ => 0))), (q8, .inl (ca g 0, 48, .inl (fun _ => 0))), (q9, .inl (ca g 0, 48, .inl (fun _ => 0)))] := hD
  refine lv_aload_n hx hb dX1_init_39 rfl (lv_at hl 0 rfl) ?_
  refine lv_bipush (v := 6) hx hb dX1_init_40 (by decide) ?_
  refine i_newa Y hP hD hS hA (ty := .boolean) rfl 1 rfl (fun C => by simp) mw_192 (a0 := (6, .inl (fun _ => 0))) (N' := 6) (fun _ => rfl) (by decide) (by decide) (Nat.le_of_ble_eq_true rfl) (Nat.le_of_ble_eq_true rfl) (Nat.le_of_ble_eq_true rfl) dX1_init_42 (fun q10 H hP hD hS => ?_)
  have hP : va_P g.1 vwCl [(h0, .inr (1, [.ref q1, .ref q7, .ref q8, .ref q9, .null, .null])), (q1, .inr (2, [.ref q2, .ref q3, .ref q4, .ref q5, .ref q6, .int 0, .int 0, .int 0, .int 0, .int 0])), (q2, .inl (ca g 0, 6, .inl (upd (upd (upd (upd (upd (upd (fun _ => 0) 0 17) 1 17) 2 17) 3 17) 4 17) 5 17))), (q3, .inl (ca g 0, 6, .inl (fun _ => 0))), (q4, .inl (ca g 0, 6, .inl (upd (upd (upd (upd (upd (upd (fun _ => 0) 0 2) 1 2) 2 2) 3 2) 4 2) 5 2))), (q5, .inl (ca g 0, 48, .inl (fun _ => 0))), (q6, .inl (ca g 0, 4, .inl (upd (upd (upd (upd (fun _ => 0) 0 1) 1 840) 2 4) 3 10))), (q7, .inl (ca g 0, 48, .inl (fun _ => 0))), (q8, .inl (ca g 0, 48, .inl (fun _ => 0))), (q9, .inl (ca g 0, 48, .inl (fun _ => 0))), (q10, .inl (ca g 1, 6, .inl (fun _ => 0)))] H := hP
  have hD : va_D A [(h0, .inr (1, [.ref q1, .ref q7, .ref q8, .ref q9, .null, .null])), (q1, .inr (2, [.ref q2, .ref q3, .ref q4, .ref q5, .ref q6, .int 0, .int 0, .int 0, .int 0, .int 0])), (q2, .inl (ca g 0, 6, .inl (upd (upd (upd (upd (upd (upd (fun _ => 0) 0 17) 1 17) 2 17) 3 17) 4 17) 5 17))), (q3, .inl (ca g 0, 6, .inl (fun _ => 0))), (q4, .inl (ca g 0, 6, .inl (upd (upd (upd (upd (upd (upd (fun _ => 0) 0 2) 1 2) 2 2) 3 2) 4 2) 5 2))), (q5, .inl (ca g 0, 48, .inl (fun _ => 0))), (q6, .inl (ca g 0, 4, .inl (upd (upd (upd (upd (fun _ => 0) 0 1) 1 840) 2 4) 3 10))), (q7, .inl (ca g 0, 48, .inl (fun _ => 0))), (q8, .inl (ca g 0, 48, .inl (fun _ => 0))), (q9, .inl (ca g 0, 48, .inl (fun _ => 0))), (q10, .inl (ca g 1, 6, .inl (fun _ => 0)))] := hD
  refine va_putF (D := g.1) (ci := 1) (v := .ref q10) (ty := .array .boolean) (C := RX1) (T := TX1) (N := 6) hx hb hts inA_1 tyX1 tyX1_ok nmX1 hown hK hP hD hS 0 rfl rfl 4 (by decide) (hts _ mw_201) (fun _ h9 => h9) rfl hin rfl (by decide +kernel) rfl rfl (Nat.le_of_ble_eq_true rfl) dX1_init_44 (fun H locs hP hD hS => ?_)
  have hP : va_P g.1 vwCl [(h0, .inr (1, [.ref q1, .ref q7, .ref q8, .ref q9, .ref q10, .null])), (q1, .inr (2, [.ref q2, .ref q3, .ref q4, .ref q5, .ref q6, .int 0, .int 0, .int 0, .int 0, .int 0])), (q2, .inl (ca g 0, 6, .inl (upd (upd (upd (upd (upd (upd (fun _ => 0) 0 17) 1 17) 2 17) 3 17) 4 17) 5 17))), (q3, .inl (ca g 0, 6, .inl (fun _ => 0))), (q4, .inl (ca g 0, 6, .inl (upd (upd (upd (upd (upd (upd (fun _ => 0) 0 2) 1 2) 2 2) 3 2) 4 2) 5 2))), (q5, .inl (ca g 0, 48, .inl (fun _ => 0))), (q6, .inl (ca g 0, 4, .inl (upd (upd (upd (upd (fun _ => 0) 0 1) 1 840) 2 4) 3 10))), (q7, .inl (ca g 0, 48, .inl (fun _ => 0))), (q8, .inl (ca g 0, 48, .inl (fun _ => 0))), (q9, .inl (ca g 0, 48, .inl (fun _ => 0))), (q10, .inl (ca g 1, 6, .inl (fun _ => 0)))] H := hP
  have hD : va_D A [(h0, .inr (1, [.ref q1, .ref q7, .ref q8, .ref q9, .ref q10, .null])), (q1, .inr (2, [.ref q2, .ref q3, .ref q4, .ref q5, .ref q6, .int 0, .int 0, .int 0, .int 0, .int 0])), (q2, .inl (ca g 0, 6, .inl (upd (upd (upd (upd (upd (upd (fun _ => 0) 0 17) 1 17) 2 17) 3 17) 4 17) 5 17))), (q3, .inl (ca g 0, 6, .inl (fun _ => 0))), (q4, .inl (ca g 0, 6, .inl (upd (upd (upd (upd (upd (upd (fun _ => 0) 0 2) 1 2) 2 2) 3 2) 4 2) 5 2))), (q5, .inl (ca g 0, 48, .inl (fun _ => 0))), (q6, .inl (ca g 0, 4, .inl (upd (upd (upd (upd (fun _ => 0) 0 1) 1 840) 2 4) 3 10))), (q7, .inl (ca g 0, 48, .inl (fun _ => 0))), (q8, .inl (ca g 0, 48, .inl (fun _ => 0))), (q9, .inl (ca g 0, 48, .inl (fun _ => 0))), (q10, .inl (ca g 1, 6, .inl (fun _ => 0)))] := hD
  refine lv_aload_n hx hb dX1_init_47 rfl (lv_at hl 0 rfl) ?_
  refine va_new (ci := 4) (fs := [.int 0, .int 0, .int 0, .int 0, .int 0, .int 0, .int 0, .int 0]) (C := RX4) (T := TX4) (N := 8) hx hb hts inA_4 tyX4 tyX4_ok hown (hts _ mw_161) (hts _ mw_162) (hts _ mw_70) hK hP hD hS hA rfl (fun j hj => by rcases (show j = 0 ∨ j = 1 ∨ j = 2 ∨ j = 3 ∨ j = 4 ∨ j = 5 ∨ j = 6 ∨ j = 7 by omega) with rfl | rfl | rfl | rfl | rfl | rfl | rfl | rfl <;> rfl) (Nat.le_of_ble_eq_true rfl) (Nat.le_of_ble_eq_true rfl) dX1_init_48 (fun q11 H hP hD hS => ?_)
  have hP : va_P g.1 vwCl [(h0, .inr (1, [.ref q1, .ref q7, .ref q8, .ref q9, .ref q10, .null])), (q1, .inr (2, [.ref q2, .ref q3, .ref q4, .ref q5, .ref q6, .int 0, .int 0, .int 0, .int 0, .int 0])), (q2, .inl (ca g 0, 6, .inl (upd (upd (upd (upd (upd (upd (fun _ => 0) 0 17) 1 17) 2 17) 3 17) 4 17) 5 17))), (q3, .inl (ca g 0, 6, .inl (fun _ => 0))), (q4, .inl (ca g 0, 6, .inl (upd (upd (upd (upd (upd (upd (fun _ => 0) 0 2) 1 2) 2 2) 3 2) 4 2) 5 2))), (q5, .inl (ca g 0, 48, .inl (fun _ => 0))), (q6, .inl (ca g 0, 4, .inl (upd (upd (upd (upd (fun _ => 0) 0 1) 1 840) 2 4) 3 10))), (q7, .inl (ca g 0, 48, .inl (fun _ => 0))), (q8, .inl (ca g 0, 48, .inl (fun _ => 0))), (q9, .inl (ca g 0, 48, .inl (fun _ => 0))), (q10, .inl (ca g 1, 6, .inl (fun _ => 0))), (q11, .inr (4, [.int 0, .int 0, .int 0, .int 0, .int 0, .int 0, .int 0, .int 0]))] H := hP
  have hD : va_D A [(h0, .inr (1, [.ref q1, .ref q7, .ref q8, .ref q9, .ref q10, .null])), (q1, .inr (2, [.ref q2, .ref q3, .ref q4, .ref q5, .ref q6, .int 0, .int 0, .int 0, .int 0, .int 0])), (q2, .inl (ca g 0, 6, .inl (upd (upd (upd (upd (upd (upd (fun _ => 0) 0 17) 1 17) 2 17) 3 17) 4 17) 5 17))), (q3, .inl (ca g 0, 6, .inl (fun _ => 0))), (q4, .inl (ca g 0, 6, .inl (upd (upd (upd (upd (upd (upd (fun _ => 0) 0 2) 1 2) 2 2) 3 2) 4 2) 5 2))), (q5, .inl (ca g 0, 48, .inl (fun _ => 0))), (q6, .inl (ca g 0, 4, .inl (upd (upd (upd (upd (fun _ => 0) 0 1) 1 840) 2 4) 3 10))), (q7, .inl (ca g 0, 48, .inl (fun _ => 0))), (q8, .inl (ca g 0, 48, .inl (fun _ => 0))), (q9, .inl (ca g 0, 48, .inl (fun _ => 0))), (q10, .inl (ca g 1, 6, .inl (fun _ => 0))), (q11, .inr (4, [.int 0, .int 0, .int 0, .int 0, .int 0, .int 0, .int 0, .int 0]))] := hD
  refine lv_dup hx hb dX1_init_51 rfl ?_
  have hPc := hP.sub (ws' := [(q11, .inr (4, [.int 0, .int 0, .int 0, .int 0, .int 0, .int 0, .int 0, .int 0]))]) [11] rfl
  have hFc := va_free (wc := [(q11, .inr (4, [.int 0, .int 0, .int 0, .int 0, .int 0, .int 0, .int 0, .int 0]))]) hD hS hA [11] rfl
  refine k_init (Bp := fun Hh => va_P g.1 vwCl [(q11, .inr (4, [.int 0, .int 0, .int 0, .int 0, .int 0, .int 0, .int 0, .int 0]))] Hh ∧ va_D (va_A [(q11, .inr (4, [.int 0, .int 0, .int 0, .int 0, .int 0, .int 0, .int 0, .int 0]))] H.size) [(q11, .inr (4, [.int 0, .int 0, .int 0, .int 0, .int 0, .int 0, .int 0, .int 0]))]) (C1 := [(q11, .inr (4, [.int 0, .int 0, .int 0, .int 0, .int 0, .int 0, .int 0, .int 0]))]) hS (i_runN Y hO hml hl.1 hlo hAg (rest := [.ref q11, .ref h0]) (ci_X4_init l g q11 H.size) hPc hS (hAg _ (hD.2 11 _ rfl)) (Y.2.2.2.2.1.2.2.1.2.2.1) kwi_X4_init ⟨⟨rfl, rfl⟩, ko_X4_init, ⟨Nat.le_of_ble_eq_true rfl, Nat.le_of_ble_eq_true rfl⟩⟩ rfl rfl (Nat.le_of_ble_eq_true rfl) dX1_init_52 ⟨Nat.le_of_ble_eq_true rfl, Nat.le_of_ble_eq_true rfl⟩) hFc (fun H1 locs hB hk1 hS => ?_)
  obtain ⟨hP1, hD1⟩ := hB
  obtain ⟨hP, hD⟩ := va_join (wr := [(h0, .inr (1, [.ref q1, .ref q7, .ref q8, .ref q9, .ref q10, .null])), (q1, .inr (2, [.ref q2, .ref q3, .ref q4, .ref q5, .ref q6, .int 0, .int 0, .int 0, .int 0, .int 0])), (q2, .inl (ca g 0, 6, .inl (upd (upd (upd (upd (upd (upd (fun _ => 0) 0 17) 1 17) 2 17) 3 17) 4 17) 5 17))), (q3, .inl (ca g 0, 6, .inl (fun _ => 0))), (q4, .inl (ca g 0, 6, .inl (upd (upd (upd (upd (upd (upd (fun _ => 0) 0 2) 1 2) 2 2) 3 2) 4 2) 5 2))), (q5, .inl (ca g 0, 48, .inl (fun _ => 0))), (q6, .inl (ca g 0, 4, .inl (upd (upd (upd (upd (fun _ => 0) 0 1) 1 840) 2 4) 3 10))), (q7, .inl (ca g 0, 48, .inl (fun _ => 0))), (q8, .inl (ca g 0, 48, .inl (fun _ => 0))), (q9, .inl (ca g 0, 48, .inl (fun _ => 0))), (q10, .inl (ca g 1, 6, .inl (fun _ => 0)))]) (w1 := [(q11, .inr (4, [.int 0, .int 0, .int 0, .int 0, .int 0, .int 0, .int 0, .int 0]))]) hP hD [11] [0, 1, 2, 3, 4, 5, 6, 7, 8, 9, 10] rfl rfl (by decide) (by decide) hk1 hFc hP1 hD1
  generalize H1 = H at hP hS ⊢
  have hP : va_P g.1 vwCl [(h0, .inr (1, [.ref q1, .ref q7, .ref q8, .ref q9, .ref q10, .null])), (q1, .inr (2, [.ref q2, .ref q3, .ref q4, .ref q5, .ref q6, .int 0, .int 0, .int 0, .int 0, .int 0])), (q2, .inl (ca g 0, 6, .inl (upd (upd (upd (upd (upd (upd (fun _ => 0) 0 17) 1 17) 2 17) 3 17) 4 17) 5 17))), (q3, .inl (ca g 0, 6, .inl (fun _ => 0))), (q4, .inl (ca g 0, 6, .inl (upd (upd (upd (upd (upd (upd (fun _ => 0) 0 2) 1 2) 2 2) 3 2) 4 2) 5 2))), (q5, .inl (ca g 0, 48, .inl (fun _ => 0))), (q6, .inl (ca g 0, 4, .inl (upd (upd (upd (upd (fun _ => 0) 0 1) 1 840) 2 4) 3 10))), (q7, .inl (ca g 0, 48, .inl (fun _ => 0))), (q8, .inl (ca g 0, 48, .inl (fun _ => 0))), (q9, .inl (ca g 0, 48, .inl (fun _ => 0))), (q10, .inl (ca g 1, 6, .inl (fun _ => 0))), (q11, .inr (4, [.int 0, .int 0, .int 0, .int 0, .int 0, .int 0, .int 0, .int 0]))] H := hP
  have hD : va_D A [(h0, .inr (1, [.ref q1, .ref q7, .ref q8, .ref q9, .ref q10, .null])), (q1, .inr (2, [.ref q2, .ref q3, .ref q4, .ref q5, .ref q6, .int 0, .int 0, .int 0, .int 0, .int 0])), (q2, .inl (ca g 0, 6, .inl (upd (upd (upd (upd (upd (upd (fun _ => 0) 0 17) 1 17) 2 17) 3 17) 4 17) 5 17))), (q3, .inl (ca g 0, 6, .inl (fun _ => 0))), (q4, .inl (ca g 0, 6, .inl (upd (upd (upd (upd (upd (upd (fun _ => 0) 0 2) 1 2) 2 2) 3 2) 4 2) 5 2))), (q5, .inl (ca g 0, 48, .inl (fun _ => 0))), (q6, .inl (ca g 0, 4, .inl (upd (upd (upd (upd (fun _ => 0) 0 1) 1 840) 2 4) 3 10))), (q7, .inl (ca g 0, 48, .inl (fun _ => 0))), (q8, .inl (ca g 0, 48, .inl (fun _ => 0))), (q9, .inl (ca g 0, 48, .inl (fun _ => 0))), (q10, .inl (ca g 1, 6, .inl (fun _ => 0))), (q11, .inr (4, [.int 0, .int 0, .int 0, .int 0, .int 0, .int 0, .int 0, .int 0]))] := hD
  refine va_putF (D := g.1) (ci := 1) (v := .ref q11) (ty := .object "LitDigits$Turn") (C := RX1) (T := TX1) (N := 6) hx hb hts inA_1 tyX1 tyX1_ok nmX1 hown hK hP hD hS 0 rfl rfl 5 (by decide) (hts _ mw_202) (fun _ h9 => h9) rfl hin rfl (by decide +kernel) rfl rfl (Nat.le_of_ble_eq_true rfl) dX1_init_55 (fun H locs hP hD hS => ?_)
  have hP : va_P g.1 vwCl [(h0, .inr (1, [.ref q1, .ref q7, .ref q8, .ref q9, .ref q10, .ref q11])), (q1, .inr (2, [.ref q2, .ref q3, .ref q4, .ref q5, .ref q6, .int 0, .int 0, .int 0, .int 0, .int 0])), (q2, .inl (ca g 0, 6, .inl (upd (upd (upd (upd (upd (upd (fun _ => 0) 0 17) 1 17) 2 17) 3 17) 4 17) 5 17))), (q3, .inl (ca g 0, 6, .inl (fun _ => 0))), (q4, .inl (ca g 0, 6, .inl (upd (upd (upd (upd (upd (upd (fun _ => 0) 0 2) 1 2) 2 2) 3 2) 4 2) 5 2))), (q5, .inl (ca g 0, 48, .inl (fun _ => 0))), (q6, .inl (ca g 0, 4, .inl (upd (upd (upd (upd (fun _ => 0) 0 1) 1 840) 2 4) 3 10))), (q7, .inl (ca g 0, 48, .inl (fun _ => 0))), (q8, .inl (ca g 0, 48, .inl (fun _ => 0))), (q9, .inl (ca g 0, 48, .inl (fun _ => 0))), (q10, .inl (ca g 1, 6, .inl (fun _ => 0))), (q11, .inr (4, [.int 0, .int 0, .int 0, .int 0, .int 0, .int 0, .int 0, .int 0]))] H := hP
  have hD : va_D A [(h0, .inr (1, [.ref q1, .ref q7, .ref q8, .ref q9, .ref q10, .ref q11])), (q1, .inr (2, [.ref q2, .ref q3, .ref q4, .ref q5, .ref q6, .int 0, .int 0, .int 0, .int 0, .int 0])), (q2, .inl (ca g 0, 6, .inl (upd (upd (upd (upd (upd (upd (fun _ => 0) 0 17) 1 17) 2 17) 3 17) 4 17) 5 17))), (q3, .inl (ca g 0, 6, .inl (fun _ => 0))), (q4, .inl (ca g 0, 6, .inl (upd (upd (upd (upd (upd (upd (fun _ => 0) 0 2) 1 2) 2 2) 3 2) 4 2) 5 2))), (q5, .inl (ca g 0, 48, .inl (fun _ => 0))), (q6, .inl (ca g 0, 4, .inl (upd (upd (upd (upd (fun _ => 0) 0 1) 1 840) 2 4) 3 10))), (q7, .inl (ca g 0, 48, .inl (fun _ => 0))), (q8, .inl (ca g 0, 48, .inl (fun _ => 0))), (q9, .inl (ca g 0, 48, .inl (fun _ => 0))), (q10, .inl (ca g 1, 6, .inl (fun _ => 0))), (q11, .inr (4, [.int 0, .int 0, .int 0, .int 0, .int 0, .int 0, .int 0, .int 0]))] := hD
  refine W.widen (k := 11) (n := 238) (Nat.le_of_ble_eq_true rfl) (Nat.le_of_ble_eq_true rfl) ?_
  exact W.vret hx hb hr (fun t ht hW => ⟨⟨(), rfl, trivial, q1, q2, q3, q4, q5, q6, q7, q8, q9, q10, q11, by rw [ht]; exact hP, hD⟩, hS.F ht⟩) hS.2.2 dX1_init_58 hlocks
