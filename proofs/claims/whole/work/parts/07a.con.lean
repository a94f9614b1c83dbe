set_option maxRecDepth 100000 in
set_option maxHeartbeats 4000000 in
theorem c_X5_maskOf (l : Launch) (g : gG) (hDW : DW g) (x0 : Int32) (mm : gM) (r0 : Int32) (hf : fX5_maskOf x0 = some r0) : Met l yX5_maskOf (Cond.code yX5_maskOf cX5_maskOf 1 (some .int) :: ALLW) rm_X5_maskOf (CPre g mm [.int x0]) (CI g mm r0) 0 0 (gA g) := by
  refine Met.ofW (cc := cX5_maskOf) (maxL := 1) (ret := (some .int)) (by decide) rfl ?_
  intro p e s m args below meth c s₁ B hml hv
  obtain ⟨ha, hFx, hP0, hlo⟩ := hv
  have X : Cx g p s m args c meth RX5 cX5_maskOf := Cx_of hDW hFx hlo B
  have hx := X.1
  have hb := X.2.1
  have hr := B.returns
  have hlocks := X.2.2.2.2.2.2.2
  have hW : Wd g mm s s.heap [] := ⟨hP0, va_S.rf⟩
  rw [ha, lg_entry_eq]
  have hl := lv_entry ([.int x0] : List Value) (n := 1) (Nat.le_of_ble_eq_true rfl)
  generalize (lg_sl ([.int x0] : List Value) ++ List.replicate (1 - (lg_sl ([.int x0] : List Value)).length) Slot.unset).toArray = ls at hl ⊢
  have hl : lv_has ls 1 [(0, .int x0)] := hl
  rw [← ha]
  show W p l e rm_X5_maskOf s m args below meth c s.heap [] 0 0 (MQ below (CI g mm r0) args s 0 0 (gA g)) (F0 m 0 ls [])
  have P_18 : ∀ (H : Heap) (locs : List Loc) (ls : Array Slot), Wd g mm s H locs → lv_has ls 1 [] → jX5_maskOf_18 = some r0 → W p l e rm_X5_maskOf s m args below meth c H locs 0 0 (MQ below (CI g mm r0) args s 0 0 (gA g)) (F0 m 18 ls []) := by
    intro  H locs ls hW hl hf
    unfold jX5_maskOf_18 at hf
    refine lv_iconst (v := 0) hx hb dX5_maskOf_18 (by decide) ?_
    exact e_i X hr hW (someinj hf) dX5_maskOf_19
  unfold fX5_maskOf at hf
  refine lv_iload_n hx hb dX5_maskOf_0 rfl (lv_at hl 0 rfl) ?_
  refine lv_if_lt (tgt := 18) hx hb dX5_maskOf_1 (by decide) (fun c3 => ?_) (fun c3 => ?_)
  · replace hf := ite_t hf c3
    exact P_18  _ _ _ hW (lv_sub hl [] rfl) hf
  · replace hf := ite_f hf c3
    refine lv_iload_n hx hb dX5_maskOf_4 rfl (lv_at hl 0 rfl) ?_
    refine lv_bipush (v := 18) hx hb dX5_maskOf_5 (by decide) ?_
    refine lv_icmp_ge (tgt := 18) hx hb dX5_maskOf_7 (by decide) (fun c2 => ?_) (fun c2 => ?_)
    · replace hf := ite_t hf c2
      exact P_18  _ _ _ hW (lv_sub hl [] rfl) hf
    · replace hf := ite_f hf c2
      refine r_gs0 X hW mw_413 dX5_maskOf_10 ?_
      refine lv_iload_n hx hb dX5_maskOf_13 rfl (lv_at hl 0 rfl) ?_
      obtain ⟨b1, hf⟩ := chk_ex hf
      refine r_ti0 X hW b1 dX5_maskOf_14 ?_
      refine lv_goto (tgt := 19) hx hb dX5_maskOf_15 (by decide) ?_
      exact e_i X hr hW (someinj hf) dX5_maskOf_19
set_option maxRecDepth 100000 in
set_option maxHeartbeats 4000000 in
theorem c_X5_bit (l : Launch) (g : gG) (hDW : DW g) (x0 : Int32) (x1 : Int32) (mm : gM) (r0 : Int32) (hf : fX5_bit x0 x1 = some r0) : Met l yX5_bit (Cond.code yX5_bit cX5_bit 2 (some .int) :: ALLW) rm_X5_bit (CPre g mm [.int x0, .int x1]) (CI g mm r0) 0 0 (gA g) := by
  refine Met.ofW (cc := cX5_bit) (maxL := 2) (ret := (some .int)) (by decide) rfl ?_
  intro p e s m args below meth c s₁ B hml hv
  obtain ⟨ha, hFx, hP0, hlo⟩ := hv
  have X : Cx g p s m args c meth RX5 cX5_bit := Cx_of hDW hFx hlo B
  have hx := X.1
  have hb := X.2.1
  have hr := B.returns
  have hlocks := X.2.2.2.2.2.2.2
  have hW : Wd g mm s s.heap [] := ⟨hP0, va_S.rf⟩
  rw [ha, lg_entry_eq]
  have hl := lv_entry ([.int x0, .int x1] : List Value) (n := 2) (Nat.le_of_ble_eq_true rfl)
  generalize (lg_sl ([.int x0, .int x1] : List Value) ++ List.replicate (2 - (lg_sl ([.int x0, .int x1] : List Value)).length) Slot.unset).toArray = ls at hl ⊢
  have hl : lv_has ls 2 [(0, .int x0), (1, .int x1)] := hl
  rw [← ha]
  show W p l e rm_X5_bit s m args below meth c s.heap [] 0 0 (MQ below (CI g mm r0) args s 0 0 (gA g)) (F0 m 0 ls [])
  unfold fX5_bit at hf
  refine lv_iload_n hx hb dX5_bit_0 rfl (lv_at hl 0 rfl) ?_
  refine lv_iload_n hx hb dX5_bit_1 rfl (lv_at hl 1 rfl) ?_
  refine lv_ishr hx hb dX5_bit_2 ?_
  refine lv_iconst (v := 1) hx hb dX5_bit_3 (by decide) ?_
  refine lv_iand hx hb dX5_bit_4 ?_
  exact e_i X hr hW (someinj hf) dX5_bit_5
set_option maxRecDepth 100000 in
set_option maxHeartbeats 4000000 in
theorem c_X2_failing (l : Launch) (g : gG) (hDW : DW g) (t0 : Nat) (ht0 : t0 < 10) (x1 : Int32) (mm : gM) (r0 : Int32) (hf : fX2_failing t0 x1 mm = some r0) : Met l yX2_failing (Cond.code yX2_failing cX2_failing 2 (some .int) :: ALLW) rm_X2_failing (CPre g mm [.ref (ad g 0 t0), .int x1]) (CI g mm r0) 0 0 (gA g) := by
  refine Met.ofW (cc := cX2_failing) (maxL := 2) (ret := (some .int)) (by decide) rfl ?_
  intro p e s m args below meth c s₁ B hml hv
  obtain ⟨ha, hFx, hP0, hlo⟩ := hv
  have X : Cx g p s m args c meth RX2 cX2_failing := Cx_of hDW hFx hlo B
  have hx := X.1
  have hb := X.2.1
  have hr := B.returns
  have hlocks := X.2.2.2.2.2.2.2
  have hW : Wd g mm s s.heap [] := ⟨hP0, va_S.rf⟩
  rw [ha, lg_entry_eq]
  have hl := lv_entry ([.ref (ad g 0 t0), .int x1] : List Value) (n := 2) (Nat.le_of_ble_eq_true rfl)
  generalize (lg_sl ([.ref (ad g 0 t0), .int x1] : List Value) ++ List.replicate (2 - (lg_sl ([.ref (ad g 0 t0), .int x1] : List Value)).length) Slot.unset).toArray = ls at hl ⊢
  have hl : lv_has ls 2 [(0, .ref (ad g 0 t0)), (1, .int x1)] := hl
  rw [← ha]
  show W p l e rm_X2_failing s m args below meth c s.heap [] 0 0 (MQ below (CI g mm r0) args s 0 0 (gA g)) (F0 m 0 ls [])
  unfold fX2_failing at hf
  refine lv_aload_n hx hb dX2_failing_0 rfl (lv_at hl 0 rfl) ?_
  refine gf_0_1 X hW ht0 mw_115 dX2_failing_1 ?_
  refine lv_iload_n hx hb dX2_failing_4 rfl (lv_at hl 1 rfl) ?_
  obtain ⟨b1, hf⟩ := chk_ex hf
  refine r_iald X hW 2 t0 (by decide) ht0 rfl b1 dX2_failing_5 ?_
  refine lv_aload_n hx hb dX2_failing_6 rfl (lv_at hl 0 rfl) ?_
  refine gf_0_6 X hW ht0 mw_131 dX2_failing_7 ?_
  refine lv_ior hx hb dX2_failing_10 ?_
  exact e_i X hr hW (someinj hf) dX2_failing_11
set_option maxRecDepth 100000 in
set_option maxHeartbeats 4000000 in
theorem c_X2_works (l : Launch) (g : gG) (hDW : DW g) (t0 : Nat) (ht0 : t0 < 10) (x1 : Int32) (mm : gM) (r0 : Int32) (hf : fX2_works t0 x1 mm = some r0) : Met l yX2_works (Cond.code yX2_works cX2_works 3 (some .int) :: ALLW) rm_X2_works (CPre g mm [.ref (ad g 0 t0), .int x1]) (CI g mm r0) 0 0 (gA g) := by
  refine Met.ofW (cc := cX2_works) (maxL := 3) (ret := (some .int)) (by decide) rfl ?_
  intro p e s m args below meth c s₁ B hml hv
  obtain ⟨ha, hFx, hP0, hlo⟩ := hv
  have X : Cx g p s m args c meth RX2 cX2_works := Cx_of hDW hFx hlo B
  have hx := X.1
  have hb := X.2.1
  have hr := B.returns
  have hlocks := X.2.2.2.2.2.2.2
  have hW : Wd g mm s s.heap [] := ⟨hP0, va_S.rf⟩
  rw [ha, lg_entry_eq]
  have hl := lv_entry ([.ref (ad g 0 t0), .int x1] : List Value) (n := 3) (Nat.le_of_ble_eq_true rfl)
  generalize (lg_sl ([.ref (ad g 0 t0), .int x1] : List Value) ++ List.replicate (3 - (lg_sl ([.ref (ad g 0 t0), .int x1] : List Value)).length) Slot.unset).toArray = ls at hl ⊢
  have hl : lv_has ls 3 [(0, .ref (ad g 0 t0)), (1, .int x1)] := hl
  rw [← ha]
  show W p l e rm_X2_works s m args below meth c s.heap [] 0 0 (MQ below (CI g mm r0) args s 0 0 (gA g)) (F0 m 0 ls [])
  have P_28 : ∀ (x1 : Int32) (s0 : Int32) (s1 : Int32) (H : Heap) (locs : List Loc) (ls : Array Slot), Wd g mm s H locs → lv_has ls 3 [(0, .ref (ad g 0 t0)), (1, .int x1)] → jX2_works_28 t0 mm x1 s0 s1 = some r0 → W p l e rm_X2_works s m args below meth c H locs 0 0 (MQ below (CI g mm r0) args s 0 0 (gA g)) (F0 m 28 ls [.int s1, .int s0]) := by
    intro x1 s0 s1 H locs ls hW hl hf
    unfold jX2_works_28 at hf
    refine lv_ior hx hb dX2_works_28 ?_
    refine lv_istore_n (lv' := [(2, .int (s0 ||| s1)), (0, .ref (ad g 0 t0)), (1, .int x1)]) hx hb dX2_works_29 rfl hl (by decide) rfl (fun ls hl => ?_)
    refine lv_iload_n hx hb dX2_works_30 rfl (lv_at hl 0 rfl) ?_
    refine lv_aload_n hx hb dX2_works_31 rfl (lv_at hl 1 rfl) ?_
    refine lv_iload_n hx hb dX2_works_32 rfl (lv_at hl 2 rfl) ?_
    obtain ⟨r10, e9, hf⟩ := bnd_ex hf
    refine k_i X hW (k_V (As := [.int x1]) (rest := [.int (s0 ||| s1)]) X hW hml hl.1 (c_X2_failing l g hDW t0 ht0 _ mm _ e9) (r_recv X hW 0 t0 (by decide) ht0 rfl rfl) ⟨mw_418, kw_X2_failing⟩ ⟨⟨rfl, rfl⟩, ko_X2_failing, ⟨Nat.le_of_ble_eq_true rfl, Nat.le_of_ble_eq_true rfl⟩⟩ rfl rfl (Nat.le_of_ble_eq_true rfl) dX2_works_33 ⟨Nat.le_of_ble_eq_true rfl, Nat.le_of_ble_eq_true rfl⟩) (fun H locs hW => ?_)
    refine lv_iconst (v := -1) hx hb dX2_works_36 (by decide) ?_
    refine lv_ixor hx hb dX2_works_37 ?_
    refine lv_iand hx hb dX2_works_38 ?_
    exact e_i X hr hW (someinj hf) dX2_works_39
  unfold fX2_works at hf
  refine lv_aload_n hx hb dX2_works_0 rfl (lv_at hl 0 rfl) ?_
  refine gf_0_0 X hW ht0 mw_112 dX2_works_1 ?_
  refine lv_iload_n hx hb dX2_works_4 rfl (lv_at hl 1 rfl) ?_
  obtain ⟨b1, hf⟩ := chk_ex hf
  refine r_iald X hW 1 t0 (by decide) ht0 rfl b1 dX2_works_5 ?_
  obtain ⟨r3, e2, hf⟩ := bnd_ex hf
  refine k_i X hW (k_N (As := [.int (gi mm 1 t0 x1.toNatClampNeg)]) (rest := []) X hW hml hl.1 (c_X5_maskOf l g hDW  _ mm _ e2) (X.2.2.2.2.2.2.1.2.2.1.2.2.2.2.2.2.1) kw_X5_maskOf ⟨⟨rfl, rfl⟩, ko_X5_maskOf, ⟨Nat.le_of_ble_eq_true rfl, Nat.le_of_ble_eq_true rfl⟩⟩ rfl rfl (Nat.le_of_ble_eq_true rfl) dX2_works_6 ⟨Nat.le_of_ble_eq_true rfl, Nat.le_of_ble_eq_true rfl⟩) (fun H locs hW => ?_)
  refine lv_aload_n hx hb dX2_works_9 rfl (lv_at hl 0 rfl) ?_
  refine gf_0_5 X hW ht0 mw_128 dX2_works_10 ?_
  refine lv_iload_n hx hb dX2_works_13 rfl (lv_at hl 1 rfl) ?_
  obtain ⟨r6, e5, hf⟩ := bnd_ex hf
  refine k_i X hW (k_N (As := [.int (gi mm 0 t0 5), .int x1]) (rest := [.int r3]) X hW hml hl.1 (c_X5_bit l g hDW  _ _ mm _ e5) (X.2.2.2.2.2.2.1.2.2.1.2.2.2.2.2.2.2.1) kw_X5_bit ⟨⟨rfl, rfl⟩, ko_X5_bit, ⟨Nat.le_of_ble_eq_true rfl, Nat.le_of_ble_eq_true rfl⟩⟩ rfl rfl (Nat.le_of_ble_eq_true rfl) dX2_works_14 ⟨Nat.le_of_ble_eq_true rfl, Nat.le_of_ble_eq_true rfl⟩) (fun H locs hW => ?_)
  refine lv_iconst (v := 1) hx hb dX2_works_17 (by decide) ?_
  refine lv_icmp_ne (tgt := 27) hx hb dX2_works_18 (by decide) (fun c8 => ?_) (fun c8 => ?_)
  · replace hf := ite_f hf c8
    refine lv_iconst (v := 0) hx hb dX2_works_27 (by decide) ?_
    exact P_28 _ _ _ _ _ _ hW (lv_sub hl [0, 1] rfl) hf
  · replace hf := ite_t hf c8
    refine lv_sipush (v := 128) hx hb dX2_works_21 (by decide) ?_
    refine lv_goto (tgt := 28) hx hb dX2_works_24 (by decide) ?_
    exact P_28 _ _ _ _ _ _ hW (lv_sub hl [0, 1] rfl) hf
set_option maxRecDepth 100000 in
set_option maxHeartbeats 4000000 in
theorem c_J6_bitCount_0f7a4 (l : Launch) (g : gG) (hDW : DW g) (x0 : Int32) (mm : gM) (r0 : Int32) (hf : fJ6_bitCount_0f7a4 x0 = some r0) : Met l yJ6_bitCount_0f7a4 (Cond.code yJ6_bitCount_0f7a4 cJ6_bitCount_0f7a4 1 (some .int) :: ALLW) rm_J6_bitCount_0f7a4 (CPre g mm [.int x0]) (CI g mm r0) 0 0 (gA g) := by
  refine Met.ofW (cc := cJ6_bitCount_0f7a4) (maxL := 1) (ret := (some .int)) (by decide) rfl ?_
  intro p e s m args below meth c s₁ B hml hv
  obtain ⟨ha, hFx, hP0, hlo⟩ := hv
  have X : Cx g p s m args c meth RJ6 cJ6_bitCount_0f7a4 := Cx_of hDW hFx hlo B
  have hx := X.1
  have hb := X.2.1
  have hr := B.returns
  have hlocks := X.2.2.2.2.2.2.2
  have hW : Wd g mm s s.heap [] := ⟨hP0, va_S.rf⟩
  rw [ha, lg_entry_eq]
  have hl := lv_entry ([.int x0] : List Value) (n := 1) (Nat.le_of_ble_eq_true rfl)
  generalize (lg_sl ([.int x0] : List Value) ++ List.replicate (1 - (lg_sl ([.int x0] : List Value)).length) Slot.unset).toArray = ls at hl ⊢
  have hl : lv_has ls 1 [(0, .int x0)] := hl
  rw [← ha]
  show W p l e rm_J6_bitCount_0f7a4 s m args below meth c s.heap [] 0 0 (MQ below (CI g mm r0) args s 0 0 (gA g)) (F0 m 0 ls [])
  unfold fJ6_bitCount_0f7a4 at hf
  refine lv_iload_n hx hb dJ6_bitCount_0f7a4_0 rfl (lv_at hl 0 rfl) ?_
  refine lv_iload_n hx hb dJ6_bitCount_0f7a4_1 rfl (lv_at hl 0 rfl) ?_
  refine lv_iconst (v := 1) hx hb dJ6_bitCount_0f7a4_2 (by decide) ?_
  refine lv_iushr hx hb dJ6_bitCount_0f7a4_3 (v := ush x0 1) rfl ?_
  refine lv_ldcw hx hb X.2.2.1 (X.2.2.2.1 _ mw_429) dJ6_bitCount_0f7a4_4 ?_
  refine lv_iand hx hb dJ6_bitCount_0f7a4_7 ?_
  refine lv_isub hx hb dJ6_bitCount_0f7a4_8 ?_
  obtain ⟨v1, ex, hf⟩ := wth_ex hf
  refine lv_nm ex ?_
  clear ex
  refine lv_istore_n (lv' := [(0, .int v1)]) hx hb dJ6_bitCount_0f7a4_9 rfl hl (by decide) rfl (fun ls hl => ?_)
  refine lv_iload_n hx hb dJ6_bitCount_0f7a4_10 rfl (lv_at hl 0 rfl) ?_
  refine lv_ldcw hx hb X.2.2.1 (X.2.2.2.1 _ mw_430) dJ6_bitCount_0f7a4_11 ?_
  refine lv_iand hx hb dJ6_bitCount_0f7a4_14 ?_
  refine lv_iload_n hx hb dJ6_bitCount_0f7a4_15 rfl (lv_at hl 0 rfl) ?_
  refine lv_iconst (v := 2) hx hb dJ6_bitCount_0f7a4_16 (by decide) ?_
  refine lv_iushr hx hb dJ6_bitCount_0f7a4_17 (v := ush v1 2) rfl ?_
  refine lv_ldcw hx hb X.2.2.1 (X.2.2.2.1 _ mw_430) dJ6_bitCount_0f7a4_18 ?_
  refine lv_iand hx hb dJ6_bitCount_0f7a4_21 ?_
  refine lv_iadd hx hb dJ6_bitCount_0f7a4_22 ?_
  obtain ⟨v2, ex, hf⟩ := wth_ex hf
  refine lv_nm ex ?_
  clear ex
  refine lv_istore_n (lv' := [(0, .int v2)]) hx hb dJ6_bitCount_0f7a4_23 rfl hl (by decide) rfl (fun ls hl => ?_)
  refine lv_iload_n hx hb dJ6_bitCount_0f7a4_24 rfl (lv_at hl 0 rfl) ?_
  refine lv_iload_n hx hb dJ6_bitCount_0f7a4_25 rfl (lv_at hl 0 rfl) ?_
  refine lv_iconst (v := 4) hx hb dJ6_bitCount_0f7a4_26 (by decide) ?_
  refine lv_iushr hx hb dJ6_bitCount_0f7a4_27 (v := ush v2 4) rfl ?_
  refine lv_iadd hx hb dJ6_bitCount_0f7a4_28 ?_
  refine lv_ldcw hx hb X.2.2.1 (X.2.2.2.1 _ mw_431) dJ6_bitCount_0f7a4_29 ?_
  refine lv_iand hx hb dJ6_bitCount_0f7a4_32 ?_
  obtain ⟨v3, ex, hf⟩ := wth_ex hf
  refine lv_nm ex ?_
  clear ex
  refine lv_istore_n (lv' := [(0, .int v3)]) hx hb dJ6_bitCount_0f7a4_33 rfl hl (by decide) rfl (fun ls hl => ?_)
  refine lv_iload_n hx hb dJ6_bitCount_0f7a4_34 rfl (lv_at hl 0 rfl) ?_
  refine lv_iload_n hx hb dJ6_bitCount_0f7a4_35 rfl (lv_at hl 0 rfl) ?_
  refine lv_bipush (v := 8) hx hb dJ6_bitCount_0f7a4_36 (by decide) ?_
  refine lv_iushr hx hb dJ6_bitCount_0f7a4_38 (v := ush v3 8) rfl ?_
  refine lv_iadd hx hb dJ6_bitCount_0f7a4_39 ?_
  refine lv_istore_n (lv' := [(0, .int (v3 + (ush v3 8)))]) hx hb dJ6_bitCount_0f7a4_40 rfl hl (by decide) rfl (fun ls hl => ?_)
  refine lv_iload_n hx hb dJ6_bitCount_0f7a4_41 rfl (lv_at hl 0 rfl) ?_
  refine lv_iload_n hx hb dJ6_bitCount_0f7a4_42 rfl (lv_at hl 0 rfl) ?_
  refine lv_bipush (v := 16) hx hb dJ6_bitCount_0f7a4_43 (by decide) ?_
  refine lv_iushr hx hb dJ6_bitCount_0f7a4_45 (v := ush (v3 + (ush v3 8)) 16) rfl ?_
  refine lv_iadd hx hb dJ6_bitCount_0f7a4_46 ?_
  obtain ⟨v4, ex, hf⟩ := wth_ex hf
  refine lv_nm ex ?_
  clear ex
  refine lv_istore_n (lv' := [(0, .int v4)]) hx hb dJ6_bitCount_0f7a4_47 rfl hl (by decide) rfl (fun ls hl => ?_)
  refine lv_iload_n hx hb dJ6_bitCount_0f7a4_48 rfl (lv_at hl 0 rfl) ?_
  refine lv_bipush (v := 63) hx hb dJ6_bitCount_0f7a4_49 (by decide) ?_
  refine lv_iand hx hb dJ6_bitCount_0f7a4_51 ?_
  exact e_i X hr hW (someinj hf) dJ6_bitCount_0f7a4_52
set_option maxRecDepth 100000 in
set_option maxHeartbeats 4000000 in
theorem c_X0_needier (l : Launch) (g : gG) (hDW : DW g) (x1 : Int32) (x2 : Int32) (mm : gM) (r0 : Int32) (hf : fX0_needier x1 x2 mm = some r0) : Met l yX0_needier (Cond.code yX0_needier cX0_needier 3 (some .boolean) :: ALLW) rm_X0_needier (CPre g mm [.ref (ad g 13 0), .int x1, .int x2]) (CI g mm r0) 0 0 (gA g) := by
  refine Met.ofW (cc := cX0_needier) (maxL := 3) (ret := (some .boolean)) (by decide) rfl ?_
  intro p e s m args below meth c s₁ B hml hv
  obtain ⟨ha, hFx, hP0, hlo⟩ := hv
  have X : Cx g p s m args c meth RX0 cX0_needier := Cx_of hDW hFx hlo B
  have hx := X.1
  have hb := X.2.1
  have hr := B.returns
  have hlocks := X.2.2.2.2.2.2.2
  have hW : Wd g mm s s.heap [] := ⟨hP0, va_S.rf⟩
  rw [ha, lg_entry_eq]
  have hl := lv_entry ([.ref (ad g 13 0), .int x1, .int x2] : List Value) (n := 3) (Nat.le_of_ble_eq_true rfl)
  generalize (lg_sl ([.ref (ad g 13 0), .int x1, .int x2] : List Value) ++ List.replicate (3 - (lg_sl ([.ref (ad g 13 0), .int x1, .int x2] : List Value)).length) Slot.unset).toArray = ls at hl ⊢
  have hl : lv_has ls 3 [(0, .ref (ad g 13 0)), (1, .int x1), (2, .int x2)] := hl
  rw [← ha]
  show W p l e rm_X0_needier s m args below meth c s.heap [] 0 0 (MQ below (CI g mm r0) args s 0 0 (gA g)) (F0 m 0 ls [])
  unfold fX0_needier at hf
  refine lv_aload_n hx hb dX0_needier_0 rfl (lv_at hl 0 rfl) ?_
  refine gf_13_0 X hW (by decide) mw_222 dX0_needier_1 ?_
  refine lv_iload_n hx hb dX0_needier_4 rfl (lv_at hl 1 rfl) ?_
  obtain ⟨b1, hf⟩ := chk_ex hf
  refine r_iald X hW 14 0 (by decide) (by decide) rfl b1 dX0_needier_5 ?_
  refine lv_aload_n hx hb dX0_needier_6 rfl (lv_at hl 0 rfl) ?_
  refine gf_13_1 X hW (by decide) mw_224 dX0_needier_7 ?_
  refine lv_iload_n hx hb dX0_needier_10 rfl (lv_at hl 2 rfl) ?_
  obtain ⟨b2, hf⟩ := chk_ex hf
  refine r_iald X hW 15 0 (by decide) (by decide) rfl b2 dX0_needier_11 ?_
  refine lv_imul hx hb dX0_needier_12 ?_
  refine lv_aload_n hx hb dX0_needier_13 rfl (lv_at hl 0 rfl) ?_
  refine gf_13_0 X hW (by decide) mw_222 dX0_needier_14 ?_
  refine lv_iload_n hx hb dX0_needier_17 rfl (lv_at hl 2 rfl) ?_
  obtain ⟨b3, hf⟩ := chk_ex hf
  refine r_iald X hW 14 0 (by decide) (by decide) rfl b3 dX0_needier_18 ?_
  refine lv_aload_n hx hb dX0_needier_19 rfl (lv_at hl 0 rfl) ?_
  refine gf_13_1 X hW (by decide) mw_224 dX0_needier_20 ?_
  refine lv_iload_n hx hb dX0_needier_23 rfl (lv_at hl 1 rfl) ?_
  obtain ⟨b4, hf⟩ := chk_ex hf
  refine r_iald X hW 15 0 (by decide) (by decide) rfl b4 dX0_needier_24 ?_
  refine lv_imul hx hb dX0_needier_25 ?_
  refine lv_icmp_ge (tgt := 33) hx hb dX0_needier_26 (by decide) (fun c7 => ?_) (fun c7 => ?_)
  · replace hf := ite_t hf c7
    refine lv_iconst (v := 0) hx hb dX0_needier_33 (by decide) ?_
    obtain ⟨b5, hf⟩ := chk_ex hf
    exact e_z X hr hW (bz_n b5) (someinj hf) dX0_needier_34
  · replace hf := ite_f hf c7
    refine lv_iconst (v := 1) hx hb dX0_needier_29 (by decide) ?_
    refine lv_goto (tgt := 34) hx hb dX0_needier_30 (by decide) ?_
    obtain ⟨b6, hf⟩ := chk_ex hf
    exact e_z X hr hW (bz_n b6) (someinj hf) dX0_needier_34
set_option maxRecDepth 100000 in
set_option maxHeartbeats 4000000 in
theorem c_X0_neediest (l : Launch) (g : gG) (hDW : DW g) (mm : gM) (r0 : Int32) (hf : fX0_neediest mm = some r0) : Met l yX0_neediest (Cond.code yX0_neediest cX0_neediest 4 (some .int) :: ALLW) rm_X0_neediest (CPre g mm [.ref (ad g 13 0)]) (CI g mm r0) 0 0 (gA g) := by
  refine Met.ofW (cc := cX0_neediest) (maxL := 4) (ret := (some .int)) (by decide) rfl ?_
  intro p e s m args below meth c s₁ B hml hv
  obtain ⟨ha, hFx, hP0, hlo⟩ := hv
  have X : Cx g p s m args c meth RX0 cX0_neediest := Cx_of hDW hFx hlo B
  have hx := X.1
  have hb := X.2.1
  have hr := B.returns
  have hlocks := X.2.2.2.2.2.2.2
  have hW : Wd g mm s s.heap [] := ⟨hP0, va_S.rf⟩
  rw [ha, lg_entry_eq]
  have hl := lv_entry ([.ref (ad g 13 0)] : List Value) (n := 4) (Nat.le_of_ble_eq_true rfl)
  generalize (lg_sl ([.ref (ad g 13 0)] : List Value) ++ List.replicate (4 - (lg_sl ([.ref (ad g 13 0)] : List Value)).length) Slot.unset).toArray = ls at hl ⊢
  have hl : lv_has ls 4 [(0, .ref (ad g 13 0))] := hl
  rw [← ha]
  show W p l e rm_X0_neediest s m args below meth c s.heap [] 0 0 (MQ below (CI g mm r0) args s 0 0 (gA g)) (F0 m 0 ls [])
  have P_4 : ∀ (n4 : Nat) (x1 : Int32) (x2 : Int32) (H : Heap) (locs : List Loc) (ls : Array Slot), Wd g mm s H locs → lv_has ls 4 [(0, .ref (ad g 13 0)), (1, .int x1), (2, .int x2)] → lX0_neediest_4 mm n4 x1 x2 = some r0 → W p l e rm_X0_neediest s m args below meth c H locs 0 0 (MQ below (CI g mm r0) args s 0 0 (gA g)) (F0 m 4 ls []) := by
    intro n4
    induction n4 with
    | zero => intro x1 x2 H locs ls hW hl hf; exact (no_some hf).elim
    | succ n4 ih_4 =>
      have P_56 : ∀ (x1 : Int32) (x2 : Int32) (H : Heap) (locs : List Loc) (ls : Array Slot), Wd g mm s H locs → lv_has ls 4 [(0, .ref (ad g 13 0)), (1, .int x1), (2, .int x2)] → jX0_neediest_56 (lX0_neediest_4 mm n4) mm x1 x2 = some r0 → W p l e rm_X0_neediest s m args below meth c H locs 0 0 (MQ below (CI g mm r0) args s 0 0 (gA g)) (F0 m 56 ls []) := by
        intro x1 x2 H locs ls hW hl hf
        unfold jX0_neediest_56 at hf
        refine lv_iinc (v := x2 + 1) (lv' := [(2, .int (x2 + 1)), (0, .ref (ad g 13 0)), (1, .int x1)]) hx hb dX0_neediest_56 hl (k := 2) rfl rfl (by decide) rfl (fun ls hl => ?_)
        refine lv_goto (tgt := 4) hx hb dX0_neediest_59 (by decide) ?_
        exact ih_4 _ _ _ _ _ hW (lv_sub hl [1, 2, 0] rfl) hf
      have P_54 : ∀ (x2 : Int32) (H : Heap) (locs : List Loc) (ls : Array Slot), Wd g mm s H locs → lv_has ls 4 [(0, .ref (ad g 13 0)), (2, .int x2)] → jX0_neediest_54 (lX0_neediest_4 mm n4) mm x2 = some r0 → W p l e rm_X0_neediest s m args below meth c H locs 0 0 (MQ below (CI g mm r0) args s 0 0 (gA g)) (F0 m 54 ls []) := by
        intro x2 H locs ls hW hl hf
        unfold jX0_neediest_54 at hf
        refine lv_iload_n hx hb dX0_neediest_54 rfl (lv_at hl 1 rfl) ?_
        refine lv_istore_n (lv' := [(1, .int x2), (0, .ref (ad g 13 0)), (2, .int x2)]) hx hb dX0_neediest_55 rfl hl (by decide) rfl (fun ls hl => ?_)
        exact P_56 _ _ _ _ _ hW (lv_sub hl [1, 0, 2] rfl) hf
      have P_35 : ∀ (x1 : Int32) (x2 : Int32) (s0 : Int32) (H : Heap) (locs : List Loc) (ls : Array Slot), Wd g mm s H locs → lv_has ls 4 [(0, .ref (ad g 13 0)), (1, .int x1), (2, .int x2)] → jX0_neediest_35 (lX0_neediest_4 mm n4) mm x1 x2 s0 = some r0 → W p l e rm_X0_neediest s m args below meth c H locs 0 0 (MQ below (CI g mm r0) args s 0 0 (gA g)) (F0 m 35 ls [.int s0]) := by
        intro x1 x2 s0 H locs ls hW hl hf
        unfold jX0_neediest_35 at hf
        refine lv_istore_n (lv' := [(3, .int s0), (0, .ref (ad g 13 0)), (1, .int x1), (2, .int x2)]) hx hb dX0_neediest_35 rfl hl (by decide) rfl (fun ls hl => ?_)
        refine lv_iload_n hx hb dX0_neediest_36 rfl (lv_at hl 0 rfl) ?_
        refine lv_if_eq (tgt := 56) hx hb dX0_neediest_37 (by decide) (fun c11 => ?_) (fun c11 => ?_)
        · replace hf := ite_t hf c11
          exact P_56 _ _ _ _ _ hW (lv_sub hl [1, 2, 3] rfl) hf
        · replace hf := ite_f hf c11
          refine lv_iload_n hx hb dX0_neediest_40 rfl (lv_at hl 2 rfl) ?_
          refine lv_iconst (v := -1) hx hb dX0_neediest_41 (by decide) ?_
          refine lv_icmp_eq (tgt := 54) hx hb dX0_neediest_42 (by decide) (fun c10 => ?_) (fun c10 => ?_)
          · replace hf := ite_t hf c10
            exact P_54 _ _ _ _ hW (lv_sub hl [1, 3] rfl) hf
          · replace hf := ite_f hf c10
            refine lv_aload_n hx hb dX0_neediest_45 rfl (lv_at hl 1 rfl) ?_
            refine lv_iload_n hx hb dX0_neediest_46 rfl (lv_at hl 3 rfl) ?_
            refine lv_iload_n hx hb dX0_neediest_47 rfl (lv_at hl 2 rfl) ?_
            obtain ⟨r7, e6, hf⟩ := bnd_ex hf
            refine k_i X hW (k_V (As := [.int x2, .int x1]) (rest := []) X hW hml hl.1 (c_X0_needier l g hDW  _ _ mm _ e6) (r_recv X hW 13 0 (by decide) (by decide) rfl rfl) ⟨mw_600, kw_X0_needier⟩ ⟨⟨rfl, rfl⟩, ko_X0_needier, ⟨Nat.le_of_ble_eq_true rfl, Nat.le_of_ble_eq_true rfl⟩⟩ rfl rfl (Nat.le_of_ble_eq_true rfl) dX0_neediest_48 ⟨Nat.le_of_ble_eq_true rfl, Nat.le_of_ble_eq_true rfl⟩) (fun H locs hW => ?_)
            refine lv_if_eq (tgt := 56) hx hb dX0_neediest_51 (by decide) (fun c9 => ?_) (fun c9 => ?_)
            · replace hf := ite_t hf c9
              exact P_56 _ _ _ _ _ hW (lv_sub hl [1, 2, 3] rfl) hf
            · replace hf := ite_f hf c9
              exact P_54 _ _ _ _ hW (lv_sub hl [1, 3] rfl) hf
      have P_34 : ∀ (x1 : Int32) (x2 : Int32) (H : Heap) (locs : List Loc) (ls : Array Slot), Wd g mm s H locs → lv_has ls 4 [(0, .ref (ad g 13 0)), (1, .int x1), (2, .int x2)] → jX0_neediest_34 (lX0_neediest_4 mm n4) mm x1 x2 = some r0 → W p l e rm_X0_neediest s m args below meth c H locs 0 0 (MQ below (CI g mm r0) args s 0 0 (gA g)) (F0 m 34 ls []) := by
        intro x1 x2 H locs ls hW hl hf
        unfold jX0_neediest_34 at hf
        refine lv_iconst (v := 0) hx hb dX0_neediest_34 (by decide) ?_
        exact P_35 _ _ _ _ _ _ hW (lv_sub hl [0, 1, 2] rfl) hf
      intro x1 x2 H locs ls hW hl hf
      rw [lX0_neediest_4_s] at hf
      refine lv_iload_n hx hb dX0_neediest_4 rfl (lv_at hl 2 rfl) ?_
      refine lv_bipush (v := 6) hx hb dX0_neediest_5 (by decide) ?_
      refine lv_icmp_ge (tgt := 62) hx hb dX0_neediest_7 (by decide) (fun c5 => ?_) (fun c5 => ?_)
      · replace hf := ite_t hf c5
        refine lv_iload_n hx hb dX0_neediest_62 rfl (lv_at hl 1 rfl) ?_
        exact e_i X hr hW (someinj hf) dX0_neediest_63
      · replace hf := ite_f hf c5
        refine lv_aload_n hx hb dX0_neediest_10 rfl (lv_at hl 0 rfl) ?_
        refine gf_13_1 X hW (by decide) mw_224 dX0_neediest_11 ?_
        refine lv_iload_n hx hb dX0_neediest_14 rfl (lv_at hl 2 rfl) ?_
        obtain ⟨b1, hf⟩ := chk_ex hf
        refine r_iald X hW 15 0 (by decide) (by decide) rfl b1 dX0_neediest_15 ?_
        refine lv_if_le (tgt := 34) hx hb dX0_neediest_16 (by decide) (fun c4 => ?_) (fun c4 => ?_)
        · replace hf := ite_t hf c4
          exact P_34 _ _ _ _ _ hW (lv_sub hl [0, 1, 2] rfl) hf
        · replace hf := ite_f hf c4
          refine lv_aload_n hx hb dX0_neediest_19 rfl (lv_at hl 0 rfl) ?_
          refine gf_13_0 X hW (by decide) mw_222 dX0_neediest_20 ?_
          refine lv_iload_n hx hb dX0_neediest_23 rfl (lv_at hl 2 rfl) ?_
          obtain ⟨b2, hf⟩ := chk_ex hf
          refine r_iald X hW 14 0 (by decide) (by decide) rfl b2 dX0_neediest_24 ?_
          refine lv_bipush (v := 20) hx hb dX0_neediest_25 (by decide) ?_
          refine lv_icmp_ge (tgt := 34) hx hb dX0_neediest_27 (by decide) (fun c3 => ?_) (fun c3 => ?_)
          · replace hf := ite_t hf c3
            exact P_34 _ _ _ _ _ hW (lv_sub hl [0, 1, 2] rfl) hf
          · replace hf := ite_f hf c3
            refine lv_iconst (v := 1) hx hb dX0_neediest_30 (by decide) ?_
            refine lv_goto (tgt := 35) hx hb dX0_neediest_31 (by decide) ?_
            exact P_35 _ _ _ _ _ _ hW (lv_sub hl [0, 1, 2] rfl) hf
  unfold fX0_neediest at hf
  refine lv_iconst (v := -1) hx hb dX0_neediest_0 (by decide) ?_
  refine lv_istore_n (lv' := [(1, .int (-1)), (0, .ref (ad g 13 0))]) hx hb dX0_neediest_1 rfl hl (by decide) rfl (fun ls hl => ?_)
  refine lv_iconst (v := 0) hx hb dX0_neediest_2 (by decide) ?_
  refine lv_istore_n (lv' := [(2, .int 0), (1, .int (-1)), (0, .ref (ad g 13 0))]) hx hb dX0_neediest_3 rfl hl (by decide) rfl (fun ls hl => ?_)
  exact P_4 _ _ _ _ _ _ hW (lv_sub hl [2, 1, 0] rfl) hf
set_option maxRecDepth 100000 in
set_option maxHeartbeats 4000000 in
theorem c_X0_spread (l : Launch) (g : gG) (hDW : DW g) (t0 : Nat) (ht0 : t0 < 10) (x2 : Int32) (mm : gM) (r0 : Int32) (mZ : gM) (hf : fX0_spread t0 x2 mm = some (r0, mZ)) : Met l yX0_spread (Cond.code yX0_spread cX0_spread 6 (some .int) :: ALLW) rm_X0_spread (CPre g mm [.ref (ad g 13 0), .ref (ad g 0 t0), .int x2]) (CI g mZ r0) 0 0 (gA g) := by
  refine Met.ofW (cc := cX0_spread) (maxL := 6) (ret := (some .int)) (by decide) rfl ?_
  intro p e s m args below meth c s₁ B hml hv
  obtain ⟨ha, hFx, hP0, hlo⟩ := hv
  have X : Cx g p s m args c meth RX0 cX0_spread := Cx_of hDW hFx hlo B
  have hx := X.1
  have hb := X.2.1
  have hr := B.returns
  have hlocks := X.2.2.2.2.2.2.2
  have hW : Wd g mm s s.heap [] := ⟨hP0, va_S.rf⟩
  rw [ha, lg_entry_eq]
  have hl := lv_entry ([.ref (ad g 13 0), .ref (ad g 0 t0), .int x2] : List Value) (n := 6) (Nat.le_of_ble_eq_true rfl)
  generalize (lg_sl ([.ref (ad g 13 0), .ref (ad g 0 t0), .int x2] : List Value) ++ List.replicate (6 - (lg_sl ([.ref (ad g 13 0), .ref (ad g 0 t0), .int x2] : List Value)).length) Slot.unset).toArray = ls at hl ⊢
  have hl : lv_has ls 6 [(0, .ref (ad g 13 0)), (1, .ref (ad g 0 t0)), (2, .int x2)] := hl
  rw [← ha]
  show W p l e rm_X0_spread s m args below meth c s.heap [] 0 0 (MQ below (CI g mZ r0) args s 0 0 (gA g)) (F0 m 0 ls [])
  have P_110 : ∀ (x3 : Int32) (mm : gM) (H : Heap) (locs : List Loc) (ls : Array Slot), Wd g mm s H locs → lv_has ls 6 [(3, .int x3)] → jX0_spread_110 t0 x3 mm = some (r0, mZ) → W p l e rm_X0_spread s m args below meth c H locs 0 0 (MQ below (CI g mZ r0) args s 0 0 (gA g)) (F0 m 110 ls []) := by
    intro x3 mm H locs ls hW hl hf
    unfold jX0_spread_110 at hf
    refine lv_iload_n hx hb dX0_spread_110 rfl (lv_at hl 0 rfl) ?_
    obtain ⟨hf, hm⟩ := prinj hf
    replace hW := hW.same hm.symm
    exact e_i X hr hW (hf) dX0_spread_111
  have P_87 : ∀ (x3 : Int32) (mm : gM) (H : Heap) (locs : List Loc) (ls : Array Slot), Wd g mm s H locs → lv_has ls 6 [(3, .int x3)] → jX0_spread_87 t0 x3 mm = some (r0, mZ) → W p l e rm_X0_spread s m args below meth c H locs 0 0 (MQ below (CI g mZ r0) args s 0 0 (gA g)) (F0 m 87 ls []) := by
    intro x3 mm H locs ls hW hl hf
    unfold jX0_spread_87 at hf
    refine lv_goto (tgt := 110) hx hb dX0_spread_87 (by decide) ?_
    exact P_110 _ _ _ _ _ hW (lv_sub hl [0] rfl) hf
  have P_69 : ∀ (n69 : Nat) (x2 : Int32) (x3 : Int32) (x4 : Int32) (mm : gM) (H : Heap) (locs : List Loc) (ls : Array Slot), Wd g mm s H locs → lv_has ls 6 [(0, .ref (ad g 13 0)), (2, .int x2), (3, .int x3), (4, .int x4)] → lX0_spread_69 t0 n69 x2 x3 x4 mm = some (r0, mZ) → W p l e rm_X0_spread s m args below meth c H locs 0 0 (MQ below (CI g mZ r0) args s 0 0 (gA g)) (F0 m 69 ls []) := by
    intro n69
    induction n69 with
    | zero => intro x2 x3 x4 mm H locs ls hW hl hf; exact (no_some hf).elim
    | succ n69 ih_69 =>
      intro x2 x3 x4 mm H locs ls hW hl hf
      rw [lX0_spread_69_s] at hf
      refine lv_iload hx hb dX0_spread_69 (lv_at hl 3 rfl) ?_
      refine lv_iload_n hx hb dX0_spread_71 rfl (lv_at hl 1 rfl) ?_
      refine lv_icmp_ge (tgt := 110) hx hb dX0_spread_72 (by decide) (fun c23 => ?_) (fun c23 => ?_)
      · replace hf := ite_t hf c23
        exact P_110 _ _ _ _ _ hW (lv_sub hl [2] rfl) hf
      · replace hf := ite_f hf c23
        refine lv_aload_n hx hb dX0_spread_75 rfl (lv_at hl 0 rfl) ?_
        obtain ⟨r17, e16, hf⟩ := bnd_ex hf
        refine k_i X hW (k_V (As := []) (rest := []) X hW hml hl.1 (c_X0_neediest l g hDW   mm _ e16) (r_recv X hW 13 0 (by decide) (by decide) rfl rfl) ⟨mw_596, kw_X0_neediest⟩ ⟨⟨rfl, rfl⟩, ko_X0_neediest, ⟨Nat.le_of_ble_eq_true rfl, Nat.le_of_ble_eq_true rfl⟩⟩ rfl rfl (Nat.le_of_ble_eq_true rfl) dX0_spread_76 ⟨Nat.le_of_ble_eq_true rfl, Nat.le_of_ble_eq_true rfl⟩) (fun H locs hW => ?_)
        refine lv_istore (lv' := [(5, .int r17), (0, .ref (ad g 13 0)), (2, .int x2), (3, .int x3), (4, .int x4)]) hx hb dX0_spread_79 hl (by decide) rfl (fun ls hl => ?_)
        refine lv_iload hx hb dX0_spread_81 (lv_at hl 0 rfl) ?_
        refine lv_iconst (v := -1) hx hb dX0_spread_83 (by decide) ?_
        refine lv_icmp_ne (tgt := 90) hx hb dX0_spread_84 (by decide) (fun c22 => ?_) (fun c22 => ?_)
        · replace hf := ite_f hf c22
          refine lv_aload_n hx hb dX0_spread_90 rfl (lv_at hl 1 rfl) ?_
          refine gf_13_0 X hW (by decide) mw_222 dX0_spread_91 ?_
          refine lv_iload hx hb dX0_spread_94 (lv_at hl 0 rfl) ?_
          refine lv_dup2_11 hx hb dX0_spread_96 rfl rfl ?_
          obtain ⟨b19, hf⟩ := chk_ex hf
          refine r_iald X hW 14 0 (by decide) (by decide) rfl b19 dX0_spread_97 ?_
          refine lv_iconst (v := 1) hx hb dX0_spread_98 (by decide) ?_
          refine lv_iadd hx hb dX0_spread_99 ?_
          obtain ⟨b20, hf⟩ := chk_ex hf
          obtain ⟨m21, ex, hf⟩ := wth_ex hf
          refine r_iast X hW 14 0 (by decide) (by decide) (fun _ => rfl) b20 dX0_spread_100 (fun H locs hW => ?_)
          replace hW := hW.same ex
          clear ex
          refine lv_iinc (v := x3 + 1) (lv' := [(3, .int (x3 + 1)), (5, .int r17), (0, .ref (ad g 13 0)), (2, .int x2), (4, .int x4)]) hx hb dX0_spread_101 hl (k := 3) rfl rfl (by decide) rfl (fun ls hl => ?_)
          refine lv_iinc (v := x4 + 1) (lv' := [(4, .int (x4 + 1)), (3, .int (x3 + 1)), (5, .int r17), (0, .ref (ad g 13 0)), (2, .int x2)]) hx hb dX0_spread_104 hl (k := 4) rfl rfl (by decide) rfl (fun ls hl => ?_)
          refine lv_goto (tgt := 69) hx hb dX0_spread_107 (by decide) ?_
          exact ih_69 _ _ _ _ _ _ _ hW (lv_sub hl [3, 4, 1, 0] rfl) hf
        · replace hf := ite_t hf c22
          exact P_87 _ _ _ _ _ hW (lv_sub hl [3] rfl) hf
  have P_66 : ∀ (x2 : Int32) (x3 : Int32) (mm : gM) (H : Heap) (locs : List Loc) (ls : Array Slot), Wd g mm s H locs → lv_has ls 6 [(0, .ref (ad g 13 0)), (2, .int x2), (3, .int x3)] → jX0_spread_66 t0 x2 x3 mm = some (r0, mZ) → W p l e rm_X0_spread s m args below meth c H locs 0 0 (MQ below (CI g mZ r0) args s 0 0 (gA g)) (F0 m 66 ls []) := by
    intro x2 x3 mm H locs ls hW hl hf
    unfold jX0_spread_66 at hf
    refine lv_iload_n hx hb dX0_spread_66 rfl (lv_at hl 2 rfl) ?_
    refine lv_istore (lv' := [(4, .int x3), (0, .ref (ad g 13 0)), (2, .int x2), (3, .int x3)]) hx hb dX0_spread_67 hl (by decide) rfl (fun ls hl => ?_)
    exact P_69 _ _ _ _ _ _ _ _ hW (lv_sub hl [1, 2, 3, 0] rfl) hf
  have P_5 : ∀ (n5 : Nat) (x2 : Int32) (x3 : Int32) (x4 : Int32) (mm : gM) (H : Heap) (locs : List Loc) (ls : Array Slot), Wd g mm s H locs → lv_has ls 6 [(0, .ref (ad g 13 0)), (1, .ref (ad g 0 t0)), (2, .int x2), (3, .int x3), (4, .int x4)] → lX0_spread_5 t0 n5 x2 x3 x4 mm = some (r0, mZ) → W p l e rm_X0_spread s m args below meth c H locs 0 0 (MQ below (CI g mZ r0) args s 0 0 (gA g)) (F0 m 5 ls []) := by
    intro n5
    induction n5 with
    | zero => intro x2 x3 x4 mm H locs ls hW hl hf; exact (no_some hf).elim
    | succ n5 ih_5 =>
      have P_49 : ∀ (x2 : Int32) (x3 : Int32) (x4 : Int32) (s1 : Int32) (s2 : Int32) (mm : gM) (H : Heap) (locs : List Loc) (ls : Array Slot), Wd g mm s H locs → lv_has ls 6 [(0, .ref (ad g 13 0)), (1, .ref (ad g 0 t0)), (2, .int x2), (3, .int x3), (4, .int x4)] → jX0_spread_49 (lX0_spread_5 t0 n5) t0 x2 x3 x4 s1 s2 mm = some (r0, mZ) → W p l e rm_X0_spread s m args below meth c H locs 0 0 (MQ below (CI g mZ r0) args s 0 0 (gA g)) (F0 m 49 ls [.int s2, .int s1, .ref (ad g 14 0)]) := by
        intro x2 x3 x4 s1 s2 mm H locs ls hW hl hf
        unfold jX0_spread_49 at hf
        obtain ⟨b12, hf⟩ := chk_ex hf
        obtain ⟨m13, ex, hf⟩ := wth_ex hf
        refine r_iast X hW 14 0 (by decide) (by decide) (fun _ => rfl) b12 dX0_spread_49 (fun H locs hW => ?_)
        replace hW := hW.same ex
        clear ex
        refine lv_iload_n hx hb dX0_spread_50 rfl (lv_at hl 3 rfl) ?_
        refine lv_aload_n hx hb dX0_spread_51 rfl (lv_at hl 0 rfl) ?_
        refine gf_13_0 X hW (by decide) mw_222 dX0_spread_52 ?_
        refine lv_iload hx hb dX0_spread_55 (lv_at hl 4 rfl) ?_
        obtain ⟨b14, hf⟩ := chk_ex hf
        refine r_iald X hW 14 0 (by decide) (by decide) rfl b14 dX0_spread_57 ?_
        refine lv_iadd hx hb dX0_spread_58 ?_
        obtain ⟨v15, ex, hf⟩ := wth_ex hf
        refine lv_nm ex ?_
        clear ex
        refine lv_istore_n (lv' := [(3, .int v15), (0, .ref (ad g 13 0)), (1, .ref (ad g 0 t0)), (2, .int x2), (4, .int x4)]) hx hb dX0_spread_59 rfl hl (by decide) rfl (fun ls hl => ?_)
        refine lv_iinc (v := x4 + 1) (lv' := [(4, .int (x4 + 1)), (3, .int v15), (0, .ref (ad g 13 0)), (1, .ref (ad g 0 t0)), (2, .int x2)]) hx hb dX0_spread_60 hl (k := 4) rfl rfl (by decide) rfl (fun ls hl => ?_)
        refine lv_goto (tgt := 5) hx hb dX0_spread_63 (by decide) ?_
        exact ih_5 _ _ _ _ _ _ _ hW (lv_sub hl [2, 3, 4, 1, 0] rfl) hf
      intro x2 x3 x4 mm H locs ls hW hl hf
      rw [lX0_spread_5_s] at hf
      refine lv_iload hx hb dX0_spread_5 (lv_at hl 4 rfl) ?_
      refine lv_bipush (v := 6) hx hb dX0_spread_7 (by decide) ?_
      refine lv_icmp_ge (tgt := 66) hx hb dX0_spread_9 (by decide) (fun c11 => ?_) (fun c11 => ?_)
      · replace hf := ite_t hf c11
        exact P_66 _ _ _ _ _ _ hW (lv_sub hl [0, 2, 3] rfl) hf
      · replace hf := ite_f hf c11
        refine lv_aload_n hx hb dX0_spread_12 rfl (lv_at hl 0 rfl) ?_
        refine gf_13_1 X hW (by decide) mw_224 dX0_spread_13 ?_
        refine lv_iload hx hb dX0_spread_16 (lv_at hl 4 rfl) ?_
        refine lv_aload_n hx hb dX0_spread_18 rfl (lv_at hl 1 rfl) ?_
        refine lv_iload hx hb dX0_spread_19 (lv_at hl 4 rfl) ?_
        obtain ⟨r2, e1, hf⟩ := bnd_ex hf
        refine k_i X hW (k_V (As := [.int x4]) (rest := [.int x4, .ref (ad g 15 0)]) X hW hml hl.1 (c_X2_works l g hDW t0 ht0 _ mm _ e1) (r_recv X hW 0 t0 (by decide) ht0 rfl rfl) ⟨mw_594, kw_X2_works⟩ ⟨⟨rfl, rfl⟩, ko_X2_works, ⟨Nat.le_of_ble_eq_true rfl, Nat.le_of_ble_eq_true rfl⟩⟩ rfl rfl (Nat.le_of_ble_eq_true rfl) dX0_spread_21 ⟨Nat.le_of_ble_eq_true rfl, Nat.le_of_ble_eq_true rfl⟩) (fun H locs hW => ?_)
        obtain ⟨r5, e4, hf⟩ := bnd_ex hf
        refine k_i X hW (k_S (As := [.int r2]) (rest := [.int x4, .ref (ad g 15 0)]) X hW hml hl.1 (c_J6_bitCount_0f7a4 l g hDW  _ mm _ e4) ⟨mw_595, kw_J6_bitCount_0f7a4⟩ ⟨⟨rfl, rfl⟩, ko_J6_bitCount_0f7a4, ⟨Nat.le_of_ble_eq_true rfl, Nat.le_of_ble_eq_true rfl⟩⟩ rfl rfl (Nat.le_of_ble_eq_true rfl) dX0_spread_24 ⟨Nat.le_of_ble_eq_true rfl, Nat.le_of_ble_eq_true rfl⟩) (fun H locs hW => ?_)
        obtain ⟨b7, hf⟩ := chk_ex hf
        obtain ⟨m8, ex, hf⟩ := wth_ex hf
        refine r_iast X hW 15 0 (by decide) (by decide) (fun _ => rfl) b7 dX0_spread_27 (fun H locs hW => ?_)
        replace hW := hW.same ex
        clear ex
        refine lv_aload_n hx hb dX0_spread_28 rfl (lv_at hl 0 rfl) ?_
        refine gf_13_0 X hW (by decide) mw_222 dX0_spread_29 ?_
        refine lv_iload hx hb dX0_spread_32 (lv_at hl 4 rfl) ?_
        refine lv_aload_n hx hb dX0_spread_34 rfl (lv_at hl 0 rfl) ?_
        refine gf_13_1 X hW (by decide) mw_224 dX0_spread_35 ?_
        refine lv_iload hx hb dX0_spread_38 (lv_at hl 4 rfl) ?_
        obtain ⟨b9, hf⟩ := chk_ex hf
        refine r_iald X hW 15 0 (by decide) (by decide) rfl b9 dX0_spread_40 ?_
        refine lv_if_le (tgt := 48) hx hb dX0_spread_41 (by decide) (fun c10 => ?_) (fun c10 => ?_)
        · replace hf := ite_t hf c10
          refine lv_iconst (v := 0) hx hb dX0_spread_48 (by decide) ?_
          exact P_49 _ _ _ _ _ _ _ _ _ hW (lv_sub hl [0, 1, 2, 3, 4] rfl) hf
        · replace hf := ite_f hf c10
          refine lv_iconst (v := 1) hx hb dX0_spread_44 (by decide) ?_
          refine lv_goto (tgt := 49) hx hb dX0_spread_45 (by decide) ?_
          exact P_49 _ _ _ _ _ _ _ _ _ hW (lv_sub hl [0, 1, 2, 3, 4] rfl) hf
  unfold fX0_spread at hf
  refine lv_iconst (v := 0) hx hb dX0_spread_0 (by decide) ?_
  refine lv_istore_n (lv' := [(3, .int 0), (0, .ref (ad g 13 0)), (1, .ref (ad g 0 t0)), (2, .int x2)]) hx hb dX0_spread_1 rfl hl (by decide) rfl (fun ls hl => ?_)
  refine lv_iconst (v := 0) hx hb dX0_spread_2 (by decide) ?_
  refine lv_istore (lv' := [(4, .int 0), (3, .int 0), (0, .ref (ad g 13 0)), (1, .ref (ad g 0 t0)), (2, .int x2)]) hx hb dX0_spread_3 hl (by decide) rfl (fun ls hl => ?_)
  exact P_5 _ _ _ _ _ _ _ _ hW (lv_sub hl [2, 3, 4, 1, 0] rfl) hf
set_option maxRecDepth 100000 in
set_option maxHeartbeats 4000000 in
theorem c_X1_forget (l : Launch) (g : gG) (hDW : DW g) (t0 : Nat) (ht0 : t0 < 2) (mm : gM) (mZ : gM) (hf : fX1_forget t0 mm = some mZ) : Met l yX1_forget (Cond.code yX1_forget cX1_forget 2 none :: ALLW) rm_X1_forget (CPre g mm [.ref (ad g 6 t0)]) (CV g mZ) 0 0 (gA g) := by
  refine Met.ofW (cc := cX1_forget) (maxL := 2) (ret := none) (by decide) rfl ?_
  intro p e s m args below meth c s₁ B hml hv
  obtain ⟨ha, hFx, hP0, hlo⟩ := hv
  have X : Cx g p s m args c meth RX1 cX1_forget := Cx_of hDW hFx hlo B
  have hx := X.1
  have hb := X.2.1
  have hr := B.returns
  have hlocks := X.2.2.2.2.2.2.2
  have hW : Wd g mm s s.heap [] := ⟨hP0, va_S.rf⟩
  rw [ha, lg_entry_eq]
  have hl := lv_entry ([.ref (ad g 6 t0)] : List Value) (n := 2) (Nat.le_of_ble_eq_true rfl)
  generalize (lg_sl ([.ref (ad g 6 t0)] : List Value) ++ List.replicate (2 - (lg_sl ([.ref (ad g 6 t0)] : List Value)).length) Slot.unset).toArray = ls at hl ⊢
  have hl : lv_has ls 2 [(0, .ref (ad g 6 t0))] := hl
  rw [← ha]
  show W p l e rm_X1_forget s m args below meth c s.heap [] 0 0 (MQ below (CV g mZ) args s 0 0 (gA g)) (F0 m 0 ls [])
  have P_2 : ∀ (n2 : Nat) (x1 : Int32) (mm : gM) (H : Heap) (locs : List Loc) (ls : Array Slot), Wd g mm s H locs → lv_has ls 2 [(0, .ref (ad g 6 t0)), (1, .int x1)] → lX1_forget_2 t0 n2 x1 mm = some mZ → W p l e rm_X1_forget s m args below meth c H locs 0 0 (MQ below (CV g mZ) args s 0 0 (gA g)) (F0 m 2 ls []) := by
    intro n2
    induction n2 with
    | zero => intro x1 mm H locs ls hW hl hf; exact (no_some hf).elim
    | succ n2 ih_2 =>
      intro x1 mm H locs ls hW hl hf
      rw [lX1_forget_2_s] at hf
      refine lv_iload_n hx hb dX1_forget_2 rfl (lv_at hl 1 rfl) ?_
      refine lv_bipush (v := 6) hx hb dX1_forget_3 (by decide) ?_
      refine lv_icmp_ge (tgt := 21) hx hb dX1_forget_5 (by decide) (fun c3 => ?_) (fun c3 => ?_)
      · replace hf := ite_t hf c3
        replace hW := hW.same (someinj hf).symm
        exact e_v X hr hW dX1_forget_21
      · replace hf := ite_f hf c3
        refine lv_aload_n hx hb dX1_forget_8 rfl (lv_at hl 0 rfl) ?_
        refine gf_6_4 X hW ht0 mw_201 dX1_forget_9 ?_
        refine lv_iload_n hx hb dX1_forget_12 rfl (lv_at hl 1 rfl) ?_
        refine lv_iconst (v := 0) hx hb dX1_forget_13 (by decide) ?_
        obtain ⟨b1, hf⟩ := chk_ex hf
        obtain ⟨m2, ex, hf⟩ := wth_ex hf
        refine r_zast X hW 10 t0 (by decide) ht0 (fun _ => rfl) b1 dX1_forget_14 (fun H locs hW => ?_)
        replace hW := hW.same ex
        clear ex
        refine lv_iinc (v := x1 + 1) (lv' := [(1, .int (x1 + 1)), (0, .ref (ad g 6 t0))]) hx hb dX1_forget_15 hl (k := 1) rfl rfl (by decide) rfl (fun ls hl => ?_)
        refine lv_goto (tgt := 2) hx hb dX1_forget_18 (by decide) ?_
        exact ih_2 _ _ _ _ _ hW (lv_sub hl [1, 0] rfl) hf
  unfold fX1_forget at hf
  refine lv_iconst (v := 0) hx hb dX1_forget_0 (by decide) ?_
  refine lv_istore_n (lv' := [(1, .int 0), (0, .ref (ad g 6 t0))]) hx hb dX1_forget_1 rfl hl (by decide) rfl (fun ls hl => ?_)
  exact P_2 _ _ _ _ _ _ hW (lv_sub hl [1, 0] rfl) hf
set_option maxRecDepth 100000 in
set_option maxHeartbeats 4000000 in
theorem c_X2_ticksOf (l : Launch) (g : gG) (hDW : DW g) (t0 : Nat) (ht0 : t0 < 10) (x1 : Int32) (mm : gM) (r0 : Int32) (hf : fX2_ticksOf t0 x1 mm = some r0) : Met l yX2_ticksOf (Cond.code yX2_ticksOf cX2_ticksOf 2 (some .int) :: ALLW) rm_X2_ticksOf (CPre g mm [.ref (ad g 0 t0), .int x1]) (CI g mm r0) 0 0 (gA g) := by
  refine Met.ofW (cc := cX2_ticksOf) (maxL := 2) (ret := (some .int)) (by decide) rfl ?_
  intro p e s m args below meth c s₁ B hml hv
  obtain ⟨ha, hFx, hP0, hlo⟩ := hv
  have X : Cx g p s m args c meth RX2 cX2_ticksOf := Cx_of hDW hFx hlo B
  have hx := X.1
  have hb := X.2.1
  have hr := B.returns
  have hlocks := X.2.2.2.2.2.2.2
  have hW : Wd g mm s s.heap [] := ⟨hP0, va_S.rf⟩
  rw [ha, lg_entry_eq]
  have hl := lv_entry ([.ref (ad g 0 t0), .int x1] : List Value) (n := 2) (Nat.le_of_ble_eq_true rfl)
  generalize (lg_sl ([.ref (ad g 0 t0), .int x1] : List Value) ++ List.replicate (2 - (lg_sl ([.ref (ad g 0 t0), .int x1] : List Value)).length) Slot.unset).toArray = ls at hl ⊢
  have hl : lv_has ls 2 [(0, .ref (ad g 0 t0)), (1, .int x1)] := hl
  rw [← ha]
  show W p l e rm_X2_ticksOf s m args below meth c s.heap [] 0 0 (MQ below (CI g mm r0) args s 0 0 (gA g)) (F0 m 0 ls [])
  unfold fX2_ticksOf at hf
  refine lv_aload_n hx hb dX2_ticksOf_0 rfl (lv_at hl 0 rfl) ?_
  refine gf_0_2 X hW ht0 mw_118 dX2_ticksOf_1 ?_
  refine lv_iload_n hx hb dX2_ticksOf_4 rfl (lv_at hl 1 rfl) ?_
  obtain ⟨b1, hf⟩ := chk_ex hf
  refine r_iald X hW 3 t0 (by decide) ht0 rfl b1 dX2_ticksOf_5 ?_
  refine lv_if_le (tgt := 25) hx hb dX2_ticksOf_6 (by decide) (fun c4 => ?_) (fun c4 => ?_)
  · replace hf := ite_t hf c4
    refine lv_iconst (v := 0) hx hb dX2_ticksOf_25 (by decide) ?_
    exact e_i X hr hW (someinj hf) dX2_ticksOf_26
  · replace hf := ite_f hf c4
    refine lv_aload_n hx hb dX2_ticksOf_9 rfl (lv_at hl 0 rfl) ?_
    refine gf_0_4 X hW ht0 mw_124 dX2_ticksOf_10 ?_
    refine lv_iconst (v := 0) hx hb dX2_ticksOf_13 (by decide) ?_
    obtain ⟨b2, hf⟩ := chk_ex hf
    refine r_iald X hW 5 t0 (by decide) ht0 rfl b2 dX2_ticksOf_14 ?_
    refine lv_aload_n hx hb dX2_ticksOf_15 rfl (lv_at hl 0 rfl) ?_
    refine gf_0_2 X hW ht0 mw_118 dX2_ticksOf_16 ?_
    refine lv_iload_n hx hb dX2_ticksOf_19 rfl (lv_at hl 1 rfl) ?_
    obtain ⟨b3, hf⟩ := chk_ex hf
    refine r_iald X hW 3 t0 (by decide) ht0 rfl b3 dX2_ticksOf_20 ?_
    refine lv_iadd hx hb dX2_ticksOf_21 ?_
    refine lv_goto (tgt := 26) hx hb dX2_ticksOf_22 (by decide) ?_
    exact e_i X hr hW (someinj hf) dX2_ticksOf_26
set_option maxRecDepth 100000 in
set_option maxHeartbeats 4000000 in
theorem c_X2_roundTicks (l : Launch) (g : gG) (hDW : DW g) (t0 : Nat) (ht0 : t0 < 10) (mm : gM) (r0 : Int32) (hf : fX2_roundTicks t0 mm = some r0) : Met l yX2_roundTicks (Cond.code yX2_roundTicks cX2_roundTicks 3 (some .int) :: ALLW) rm_X2_roundTicks (CPre g mm [.ref (ad g 0 t0)]) (CI g mm r0) 0 0 (gA g) := by
  refine Met.ofW (cc := cX2_roundTicks) (maxL := 3) (ret := (some .int)) (by decide) rfl ?_
  intro p e s m args below meth c s₁ B hml hv
  obtain ⟨ha, hFx, hP0, hlo⟩ := hv
  have X : Cx g p s m args c meth RX2 cX2_roundTicks := Cx_of hDW hFx hlo B
  have hx := X.1
  have hb := X.2.1
  have hr := B.returns
  have hlocks := X.2.2.2.2.2.2.2
  have hW : Wd g mm s s.heap [] := ⟨hP0, va_S.rf⟩
  rw [ha, lg_entry_eq]
  have hl := lv_entry ([.ref (ad g 0 t0)] : List Value) (n := 3) (Nat.le_of_ble_eq_true rfl)
  generalize (lg_sl ([.ref (ad g 0 t0)] : List Value) ++ List.replicate (3 - (lg_sl ([.ref (ad g 0 t0)] : List Value)).length) Slot.unset).toArray = ls at hl ⊢
  have hl : lv_has ls 3 [(0, .ref (ad g 0 t0))] := hl
  rw [← ha]
  show W p l e rm_X2_roundTicks s m args below meth c s.heap [] 0 0 (MQ below (CI g mm r0) args s 0 0 (gA g)) (F0 m 0 ls [])
  have P_4 : ∀ (n4 : Nat) (x1 : Int32) (x2 : Int32) (H : Heap) (locs : List Loc) (ls : Array Slot), Wd g mm s H locs → lv_has ls 3 [(0, .ref (ad g 0 t0)), (1, .int x1), (2, .int x2)] → lX2_roundTicks_4 t0 mm n4 x1 x2 = some r0 → W p l e rm_X2_roundTicks s m args below meth c H locs 0 0 (MQ below (CI g mm r0) args s 0 0 (gA g)) (F0 m 4 ls []) := by
    intro n4
    induction n4 with
    | zero => intro x1 x2 H locs ls hW hl hf; exact (no_some hf).elim
    | succ n4 ih_4 =>
      intro x1 x2 H locs ls hW hl hf
      rw [lX2_roundTicks_4_s] at hf
      refine lv_iload_n hx hb dX2_roundTicks_4 rfl (lv_at hl 2 rfl) ?_
      refine lv_bipush (v := 6) hx hb dX2_roundTicks_5 (by decide) ?_
      refine lv_icmp_ge (tgt := 24) hx hb dX2_roundTicks_7 (by decide) (fun c4 => ?_) (fun c4 => ?_)
      · replace hf := ite_t hf c4
        refine lv_iload_n hx hb dX2_roundTicks_24 rfl (lv_at hl 1 rfl) ?_
        exact e_i X hr hW (someinj hf) dX2_roundTicks_25
      · replace hf := ite_f hf c4
        refine lv_iload_n hx hb dX2_roundTicks_10 rfl (lv_at hl 1 rfl) ?_
        refine lv_aload_n hx hb dX2_roundTicks_11 rfl (lv_at hl 0 rfl) ?_
        refine lv_iload_n hx hb dX2_roundTicks_12 rfl (lv_at hl 2 rfl) ?_
        obtain ⟨r2, e1, hf⟩ := bnd_ex hf
        refine k_i X hW (k_V (As := [.int x2]) (rest := [.int x1]) X hW hml hl.1 (c_X2_ticksOf l g hDW t0 ht0 _ mm _ e1) (r_recv X hW 0 t0 (by decide) ht0 rfl rfl) ⟨mw_401, kw_X2_ticksOf⟩ ⟨⟨rfl, rfl⟩, ko_X2_ticksOf, ⟨Nat.le_of_ble_eq_true rfl, Nat.le_of_ble_eq_true rfl⟩⟩ rfl rfl (Nat.le_of_ble_eq_true rfl) dX2_roundTicks_13 ⟨Nat.le_of_ble_eq_true rfl, Nat.le_of_ble_eq_true rfl⟩) (fun H locs hW => ?_)
        refine lv_iadd hx hb dX2_roundTicks_16 ?_
        refine lv_istore_n (lv' := [(1, .int (x1 + r2)), (0, .ref (ad g 0 t0)), (2, .int x2)]) hx hb dX2_roundTicks_17 rfl hl (by decide) rfl (fun ls hl => ?_)
        refine lv_iinc (v := x2 + 1) (lv' := [(2, .int (x2 + 1)), (1, .int (x1 + r2)), (0, .ref (ad g 0 t0))]) hx hb dX2_roundTicks_18 hl (k := 2) rfl rfl (by decide) rfl (fun ls hl => ?_)
        refine lv_goto (tgt := 4) hx hb dX2_roundTicks_21 (by decide) ?_
        exact ih_4 _ _ _ _ _ hW (lv_sub hl [2, 1, 0] rfl) hf
  unfold fX2_roundTicks at hf
  refine lv_iconst (v := 0) hx hb dX2_roundTicks_0 (by decide) ?_
  refine lv_istore_n (lv' := [(1, .int 0), (0, .ref (ad g 0 t0))]) hx hb dX2_roundTicks_1 rfl hl (by decide) rfl (fun ls hl => ?_)
  refine lv_iconst (v := 0) hx hb dX2_roundTicks_2 (by decide) ?_
  refine lv_istore_n (lv' := [(2, .int 0), (1, .int 0), (0, .ref (ad g 0 t0))]) hx hb dX2_roundTicks_3 rfl hl (by decide) rfl (fun ls hl => ?_)
  exact P_4 _ _ _ _ _ _ hW (lv_sub hl [2, 1, 0] rfl) hf
set_option maxRecDepth 100000 in
set_option maxHeartbeats 4000000 in
theorem c_X2_lightFor (l : Launch) (g : gG) (hDW : DW g) (t0 : Nat) (ht0 : t0 < 10) (x1 : Int32) (mm : gM) (r0 : Int32) (hf : fX2_lightFor t0 x1 mm = some r0) : Met l yX2_lightFor (Cond.code yX2_lightFor cX2_lightFor 3 (some .int) :: ALLW) rm_X2_lightFor (CPre g mm [.ref (ad g 0 t0), .int x1]) (CI g mm r0) 0 0 (gA g) := by
  refine Met.ofW (cc := cX2_lightFor) (maxL := 3) (ret := (some .int)) (by decide) rfl ?_
  intro p e s m args below meth c s₁ B hml hv
  obtain ⟨ha, hFx, hP0, hlo⟩ := hv
  have X : Cx g p s m args c meth RX2 cX2_lightFor := Cx_of hDW hFx hlo B
  have hx := X.1
  have hb := X.2.1
  have hr := B.returns
  have hlocks := X.2.2.2.2.2.2.2
  have hW : Wd g mm s s.heap [] := ⟨hP0, va_S.rf⟩
  rw [ha, lg_entry_eq]
  have hl := lv_entry ([.ref (ad g 0 t0), .int x1] : List Value) (n := 3) (Nat.le_of_ble_eq_true rfl)
  generalize (lg_sl ([.ref (ad g 0 t0), .int x1] : List Value) ++ List.replicate (3 - (lg_sl ([.ref (ad g 0 t0), .int x1] : List Value)).length) Slot.unset).toArray = ls at hl ⊢
  have hl : lv_has ls 3 [(0, .ref (ad g 0 t0)), (1, .int x1)] := hl
  rw [← ha]
  show W p l e rm_X2_lightFor s m args below meth c s.heap [] 0 0 (MQ below (CI g mm r0) args s 0 0 (gA g)) (F0 m 0 ls [])
  unfold fX2_lightFor at hf
  refine lv_iload_n hx hb dX2_lightFor_0 rfl (lv_at hl 1 rfl) ?_
  obtain ⟨r2, e1, hf⟩ := bnd_ex hf
  refine k_i X hW (k_S (As := [.int x1]) (rest := []) X hW hml hl.1 (c_J6_bitCount_0f7a4 l g hDW  _ mm _ e1) ⟨mw_426, kw_J6_bitCount_0f7a4⟩ ⟨⟨rfl, rfl⟩, ko_J6_bitCount_0f7a4, ⟨Nat.le_of_ble_eq_true rfl, Nat.le_of_ble_eq_true rfl⟩⟩ rfl rfl (Nat.le_of_ble_eq_true rfl) dX2_lightFor_1 ⟨Nat.le_of_ble_eq_true rfl, Nat.le_of_ble_eq_true rfl⟩) (fun H locs hW => ?_)
  refine lv_istore_n (lv' := [(2, .int r2), (0, .ref (ad g 0 t0)), (1, .int x1)]) hx hb dX2_lightFor_4 rfl hl (by decide) rfl (fun ls hl => ?_)
  refine lv_iload_n hx hb dX2_lightFor_5 rfl (lv_at hl 0 rfl) ?_
  refine lv_if_le (tgt := 20) hx hb dX2_lightFor_6 (by decide) (fun c6 => ?_) (fun c6 => ?_)
  · replace hf := ite_t hf c6
    refine lv_iconst (v := 0) hx hb dX2_lightFor_20 (by decide) ?_
    exact e_i X hr hW (someinj hf) dX2_lightFor_21
  · replace hf := ite_f hf c6
    refine lv_aload_n hx hb dX2_lightFor_9 rfl (lv_at hl 1 rfl) ?_
    refine gf_0_4 X hW ht0 mw_124 dX2_lightFor_10 ?_
    refine lv_iconst (v := 1) hx hb dX2_lightFor_13 (by decide) ?_
    obtain ⟨b4, hf⟩ := chk_ex hf
    refine r_iald X hW 5 t0 (by decide) ht0 rfl b4 dX2_lightFor_14 ?_
    refine lv_iload_n hx hb dX2_lightFor_15 rfl (lv_at hl 0 rfl) ?_
    obtain ⟨b5, hf⟩ := chk_ex hf
    refine lv_idiv hx hb dX2_lightFor_16 b5 ?_
    refine lv_goto (tgt := 21) hx hb dX2_lightFor_17 (by decide) ?_
    exact e_i X hr hW (someinj hf) dX2_lightFor_21
set_option maxRecDepth 100000 in
set_option maxHeartbeats 4000000 in
theorem c_X2_litAheadOf (l : Launch) (g : gG) (hDW : DW g) (t0 : Nat) (ht0 : t0 < 10) (x1 : Int32) (mm : gM) (r0 : Int32) (hf : fX2_litAheadOf t0 x1 mm = some r0) : Met l yX2_litAheadOf (Cond.code yX2_litAheadOf cX2_litAheadOf 4 (some .int) :: ALLW) rm_X2_litAheadOf (CPre g mm [.ref (ad g 0 t0), .int x1]) (CI g mm r0) 0 0 (gA g) := by
  refine Met.ofW (cc := cX2_litAheadOf) (maxL := 4) (ret := (some .int)) (by decide) rfl ?_
  intro p e s m args below meth c s₁ B hml hv
  obtain ⟨ha, hFx, hP0, hlo⟩ := hv
  have X : Cx g p s m args c meth RX2 cX2_litAheadOf := Cx_of hDW hFx hlo B
  have hx := X.1
  have hb := X.2.1
  have hr := B.returns
  have hlocks := X.2.2.2.2.2.2.2
  have hW : Wd g mm s s.heap [] := ⟨hP0, va_S.rf⟩
  rw [ha, lg_entry_eq]
  have hl := lv_entry ([.ref (ad g 0 t0), .int x1] : List Value) (n := 4) (Nat.le_of_ble_eq_true rfl)
  generalize (lg_sl ([.ref (ad g 0 t0), .int x1] : List Value) ++ List.replicate (4 - (lg_sl ([.ref (ad g 0 t0), .int x1] : List Value)).length) Slot.unset).toArray = ls at hl ⊢
  have hl : lv_has ls 4 [(0, .ref (ad g 0 t0)), (1, .int x1)] := hl
  rw [← ha]
  show W p l e rm_X2_litAheadOf s m args below meth c s.heap [] 0 0 (MQ below (CI g mm r0) args s 0 0 (gA g)) (F0 m 0 ls [])
  have P_2 : ∀ (n2 : Nat) (x1 : Int32) (x2 : Int32) (H : Heap) (locs : List Loc) (ls : Array Slot), Wd g mm s H locs → lv_has ls 4 [(0, .ref (ad g 0 t0)), (1, .int x1), (2, .int x2)] → lX2_litAheadOf_2 t0 mm n2 x1 x2 = some r0 → W p l e rm_X2_litAheadOf s m args below meth c H locs 0 0 (MQ below (CI g mm r0) args s 0 0 (gA g)) (F0 m 2 ls []) := by
    intro n2
    induction n2 with
    | zero => intro x1 x2 H locs ls hW hl hf; exact (no_some hf).elim
    | succ n2 ih_2 =>
      have P_25 : ∀ (x1 : Int32) (x2 : Int32) (s0 : Int32) (H : Heap) (locs : List Loc) (ls : Array Slot), Wd g mm s H locs → lv_has ls 4 [(0, .ref (ad g 0 t0)), (1, .int x1), (2, .int x2)] → jX2_litAheadOf_25 (lX2_litAheadOf_2 t0 mm n2) t0 mm x1 x2 s0 = some r0 → W p l e rm_X2_litAheadOf s m args below meth c H locs 0 0 (MQ below (CI g mm r0) args s 0 0 (gA g)) (F0 m 25 ls [.int s0]) := by
        intro x1 x2 s0 H locs ls hW hl hf
        unfold jX2_litAheadOf_25 at hf
        refine lv_istore_n (lv' := [(3, .int s0), (0, .ref (ad g 0 t0)), (1, .int x1), (2, .int x2)]) hx hb dX2_litAheadOf_25 rfl hl (by decide) rfl (fun ls hl => ?_)
        refine lv_aload_n hx hb dX2_litAheadOf_26 rfl (lv_at hl 1 rfl) ?_
        refine gf_0_2 X hW ht0 mw_118 dX2_litAheadOf_27 ?_
        refine lv_iload_n hx hb dX2_litAheadOf_30 rfl (lv_at hl 0 rfl) ?_
        obtain ⟨b3, hf⟩ := chk_ex hf
        refine r_iald X hW 3 t0 (by decide) ht0 rfl b3 dX2_litAheadOf_31 ?_
        refine lv_if_le (tgt := 37) hx hb dX2_litAheadOf_32 (by decide) (fun c4 => ?_) (fun c4 => ?_)
        · replace hf := ite_t hf c4
          refine lv_iinc (v := x2 + 1) (lv' := [(2, .int (x2 + 1)), (3, .int s0), (0, .ref (ad g 0 t0)), (1, .int x1)]) hx hb dX2_litAheadOf_37 hl (k := 3) rfl rfl (by decide) rfl (fun ls hl => ?_)
          refine lv_goto (tgt := 2) hx hb dX2_litAheadOf_40 (by decide) ?_
          exact ih_2 _ _ _ _ _ hW (lv_sub hl [2, 3, 0] rfl) hf
        · replace hf := ite_f hf c4
          refine lv_iload_n hx hb dX2_litAheadOf_35 rfl (lv_at hl 0 rfl) ?_
          exact e_i X hr hW (someinj hf) dX2_litAheadOf_36
      intro x1 x2 H locs ls hW hl hf
      rw [lX2_litAheadOf_2_s] at hf
      refine lv_iload_n hx hb dX2_litAheadOf_2 rfl (lv_at hl 2 rfl) ?_
      refine lv_bipush (v := 6) hx hb dX2_litAheadOf_3 (by decide) ?_
      refine lv_icmp_ge (tgt := 43) hx hb dX2_litAheadOf_5 (by decide) (fun c2 => ?_) (fun c2 => ?_)
      · replace hf := ite_t hf c2
        refine lv_iconst (v := -1) hx hb dX2_litAheadOf_43 (by decide) ?_
        exact e_i X hr hW (someinj hf) dX2_litAheadOf_44
      · replace hf := ite_f hf c2
        refine lv_iload_n hx hb dX2_litAheadOf_8 rfl (lv_at hl 1 rfl) ?_
        refine lv_iload_n hx hb dX2_litAheadOf_9 rfl (lv_at hl 2 rfl) ?_
        refine lv_icmp_lt (tgt := 19) hx hb dX2_litAheadOf_10 (by decide) (fun c1 => ?_) (fun c1 => ?_)
        · replace hf := ite_t hf c1
          refine lv_iload_n hx hb dX2_litAheadOf_19 rfl (lv_at hl 1 rfl) ?_
          refine lv_iload_n hx hb dX2_litAheadOf_20 rfl (lv_at hl 2 rfl) ?_
          refine lv_isub hx hb dX2_litAheadOf_21 ?_
          refine lv_bipush (v := 6) hx hb dX2_litAheadOf_22 (by decide) ?_
          refine lv_iadd hx hb dX2_litAheadOf_24 ?_
          exact P_25 _ _ _ _ _ _ hW (lv_sub hl [0, 1, 2] rfl) hf
        · replace hf := ite_f hf c1
          refine lv_iload_n hx hb dX2_litAheadOf_13 rfl (lv_at hl 1 rfl) ?_
          refine lv_iload_n hx hb dX2_litAheadOf_14 rfl (lv_at hl 2 rfl) ?_
          refine lv_isub hx hb dX2_litAheadOf_15 ?_
          refine lv_goto (tgt := 25) hx hb dX2_litAheadOf_16 (by decide) ?_
          exact P_25 _ _ _ _ _ _ hW (lv_sub hl [0, 1, 2] rfl) hf
  unfold fX2_litAheadOf at hf
  refine lv_iconst (v := 1) hx hb dX2_litAheadOf_0 (by decide) ?_
  refine lv_istore_n (lv' := [(2, .int 1), (0, .ref (ad g 0 t0)), (1, .int x1)]) hx hb dX2_litAheadOf_1 rfl hl (by decide) rfl (fun ls hl => ?_)
  exact P_2 _ _ _ _ _ _ hW (lv_sub hl [1, 2, 0] rfl) hf
set_option maxRecDepth 100000 in
set_option maxHeartbeats 4000000 in
theorem c_X4_take (l : Launch) (g : gG) (hDW : DW g) (t0 : Nat) (ht0 : t0 < 3) (t1 : Nat) (ht1 : t1 < 10) (x2 : Int32) (mm : gM) (mZ : gM) (hf : fX4_take t0 t1 x2 mm = some mZ) : Met l yX4_take (Cond.code yX4_take cX4_take 5 none :: ALLW) rm_X4_take (CPre g mm [.ref (ad g 11 t0), .ref (ad g 0 t1), .int x2]) (CV g mZ) 0 0 (gA g) := by
  refine Met.ofW (cc := cX4_take) (maxL := 5) (ret := none) (by decide) rfl ?_
  intro p e s m args below meth c s₁ B hml hv
  obtain ⟨ha, hFx, hP0, hlo⟩ := hv
  have X : Cx g p s m args c meth RX4 cX4_take := Cx_of hDW hFx hlo B
  have hx := X.1
  have hb := X.2.1
  have hr := B.returns
  have hlocks := X.2.2.2.2.2.2.2
  have hW : Wd g mm s s.heap [] := ⟨hP0, va_S.rf⟩
  rw [ha, lg_entry_eq]
  have hl := lv_entry ([.ref (ad g 11 t0), .ref (ad g 0 t1), .int x2] : List Value) (n := 5) (Nat.le_of_ble_eq_true rfl)
  generalize (lg_sl ([.ref (ad g 11 t0), .ref (ad g 0 t1), .int x2] : List Value) ++ List.replicate (5 - (lg_sl ([.ref (ad g 11 t0), .ref (ad g 0 t1), .int x2] : List Value)).length) Slot.unset).toArray = ls at hl ⊢
  have hl : lv_has ls 5 [(0, .ref (ad g 11 t0)), (1, .ref (ad g 0 t1)), (2, .int x2)] := hl
  rw [← ha]
  show W p l e rm_X4_take s m args below meth c s.heap [] 0 0 (MQ below (CV g mZ) args s 0 0 (gA g)) (F0 m 0 ls [])
  have P_40 : ∀ (x2 : Int32) (mm : gM) (H : Heap) (locs : List Loc) (ls : Array Slot), Wd g mm s H locs → lv_has ls 5 [(0, .ref (ad g 11 t0)), (1, .ref (ad g 0 t1)), (2, .int x2)] → jX4_take_40 t0 t1 x2 mm = some mZ → W p l e rm_X4_take s m args below meth c H locs 0 0 (MQ below (CV g mZ) args s 0 0 (gA g)) (F0 m 40 ls []) := by
    intro x2 mm H locs ls hW hl hf
    unfold jX4_take_40 at hf
    refine lv_aload_n hx hb dX4_take_40 rfl (lv_at hl 0 rfl) ?_
    refine lv_aload_n hx hb dX4_take_41 rfl (lv_at hl 0 rfl) ?_
    refine gf_11_2 X hW ht0 mw_169 dX4_take_42 ?_
    refine lv_aload_n hx hb dX4_take_45 rfl (lv_at hl 1 rfl) ?_
    refine gf_0_2 X hW ht1 mw_119 dX4_take_46 ?_
    refine lv_iload_n hx hb dX4_take_49 rfl (lv_at hl 2 rfl) ?_
    obtain ⟨b11, hf⟩ := chk_ex hf
    refine r_iald X hW 3 t1 (by decide) ht1 rfl b11 dX4_take_50 ?_
    refine lv_isub hx hb dX4_take_51 ?_
    obtain ⟨m12, ex, hf⟩ := wth_ex hf
    refine pf_11_1 X hW ht0 mw_168 dX4_take_52 (fun H locs hW => ?_)
    replace hW := hW.same ex
    clear ex
    refine lv_aload_n hx hb dX4_take_55 rfl (lv_at hl 0 rfl) ?_
    refine lv_aload_n hx hb dX4_take_56 rfl (lv_at hl 1 rfl) ?_
    refine lv_iload_n hx hb dX4_take_57 rfl (lv_at hl 2 rfl) ?_
    obtain ⟨r14, e13, hf⟩ := bnd_ex hf
    refine k_i X hW (k_V (As := [.int x2]) (rest := [.ref (ad g 11 t0)]) X hW hml hl.1 (c_X2_works l g hDW t1 ht1 _ m12 _ e13) (r_recv X hW 0 t1 (by decide) ht1 rfl rfl) ⟨mw_406, kw_X2_works⟩ ⟨⟨rfl, rfl⟩, ko_X2_works, ⟨Nat.le_of_ble_eq_true rfl, Nat.le_of_ble_eq_true rfl⟩⟩ rfl rfl (Nat.le_of_ble_eq_true rfl) dX4_take_58 ⟨Nat.le_of_ble_eq_true rfl, Nat.le_of_ble_eq_true rfl⟩) (fun H locs hW => ?_)
    obtain ⟨m16, ex, hf⟩ := wth_ex hf
    refine pf_11_3 X hW ht0 mw_170 dX4_take_61 (fun H locs hW => ?_)
    replace hW := hW.same ex
    clear ex
    refine lv_aload_n hx hb dX4_take_64 rfl (lv_at hl 0 rfl) ?_
    refine lv_aload_n hx hb dX4_take_65 rfl (lv_at hl 1 rfl) ?_
    refine lv_aload_n hx hb dX4_take_66 rfl (lv_at hl 0 rfl) ?_
    refine gf_11_3 X hW ht0 mw_170 dX4_take_67 ?_
    obtain ⟨r18, e17, hf⟩ := bnd_ex hf
    refine k_i X hW (k_V (As := [.int (gi m16 11 t0 3)]) (rest := [.ref (ad g 11 t0)]) X hW hml hl.1 (c_X2_lightFor l g hDW t1 ht1 _ m16 _ e17) (r_recv X hW 0 t1 (by decide) ht1 rfl rfl) ⟨mw_422, kw_X2_lightFor⟩ ⟨⟨rfl, rfl⟩, ko_X2_lightFor, ⟨Nat.le_of_ble_eq_true rfl, Nat.le_of_ble_eq_true rfl⟩⟩ rfl rfl (Nat.le_of_ble_eq_true rfl) dX4_take_70 ⟨Nat.le_of_ble_eq_true rfl, Nat.le_of_ble_eq_true rfl⟩) (fun H locs hW => ?_)
    obtain ⟨m20, ex, hf⟩ := wth_ex hf
    refine pf_11_4 X hW ht0 mw_171 dX4_take_73 (fun H locs hW => ?_)
    replace hW := hW.same ex
    clear ex
    refine lv_aload_n hx hb dX4_take_76 rfl (lv_at hl 0 rfl) ?_
    refine lv_aload_n hx hb dX4_take_77 rfl (lv_at hl 1 rfl) ?_
    refine gf_0_4 X hW ht1 mw_125 dX4_take_78 ?_
    refine lv_iconst (v := 2) hx hb dX4_take_81 (by decide) ?_
    obtain ⟨b21, hf⟩ := chk_ex hf
    refine r_iald X hW 5 t1 (by decide) ht1 rfl b21 dX4_take_82 ?_
    obtain ⟨m22, ex, hf⟩ := wth_ex hf
    refine pf_11_7 X hW ht0 mw_174 dX4_take_83 (fun H locs hW => ?_)
    replace hW := hW.same ex
    clear ex
    refine lv_aload_n hx hb dX4_take_86 rfl (lv_at hl 0 rfl) ?_
    refine lv_iconst (v := 0) hx hb dX4_take_87 (by decide) ?_
    obtain ⟨m23, ex, hf⟩ := wth_ex hf
    refine pf_11_5 X hW ht0 mw_172 dX4_take_88 (fun H locs hW => ?_)
    replace hW := hW.same ex
    clear ex
    refine lv_aload_n hx hb dX4_take_91 rfl (lv_at hl 0 rfl) ?_
    refine lv_iconst (v := 0) hx hb dX4_take_92 (by decide) ?_
    obtain ⟨m24, ex, hf⟩ := wth_ex hf
    refine pf_11_6 X hW ht0 mw_173 dX4_take_93 (fun H locs hW => ?_)
    replace hW := hW.same ex
    clear ex
    refine lv_aload_n hx hb dX4_take_96 rfl (lv_at hl 1 rfl) ?_
    refine lv_iload_n hx hb dX4_take_97 rfl (lv_at hl 2 rfl) ?_
    obtain ⟨r26, e25, hf⟩ := bnd_ex hf
    refine k_i X hW (k_V (As := [.int x2]) (rest := []) X hW hml hl.1 (c_X2_litAheadOf l g hDW t1 ht1 _ m24 _ e25) (r_recv X hW 0 t1 (by decide) ht1 rfl rfl) ⟨mw_432, kw_X2_litAheadOf⟩ ⟨⟨rfl, rfl⟩, ko_X2_litAheadOf, ⟨Nat.le_of_ble_eq_true rfl, Nat.le_of_ble_eq_true rfl⟩⟩ rfl rfl (Nat.le_of_ble_eq_true rfl) dX4_take_98 ⟨Nat.le_of_ble_eq_true rfl, Nat.le_of_ble_eq_true rfl⟩) (fun H locs hW => ?_)
    refine lv_istore_n (lv' := [(3, .int r26), (0, .ref (ad g 11 t0)), (1, .ref (ad g 0 t1)), (2, .int x2)]) hx hb dX4_take_101 rfl hl (by decide) rfl (fun ls hl => ?_)
    refine lv_aload_n hx hb dX4_take_102 rfl (lv_at hl 2 rfl) ?_
    refine gf_0_4 X hW ht1 mw_125 dX4_take_103 ?_
    refine lv_iconst (v := 0) hx hb dX4_take_106 (by decide) ?_
    obtain ⟨b28, hf⟩ := chk_ex hf
    refine r_iald X hW 5 t1 (by decide) ht1 rfl b28 dX4_take_107 ?_
    refine lv_if_ne (tgt := 150) hx hb dX4_take_108 (by decide) (fun c40 => ?_) (fun c40 => ?_)
    · replace hf := ite_f hf c40
      replace hW := hW.same (someinj hf).symm
      exact e_v X hr hW dX4_take_150
    · replace hf := ite_t hf c40
      refine lv_iload_n hx hb dX4_take_111 rfl (lv_at hl 0 rfl) ?_
      refine lv_iconst (v := -1) hx hb dX4_take_112 (by decide) ?_
      refine lv_icmp_eq (tgt := 150) hx hb dX4_take_113 (by decide) (fun c39 => ?_) (fun c39 => ?_)
      · replace hf := ite_t hf c39
        replace hW := hW.same (someinj hf).symm
        exact e_v X hr hW dX4_take_150
      · replace hf := ite_f hf c39
        refine lv_aload_n hx hb dX4_take_116 rfl (lv_at hl 2 rfl) ?_
        refine lv_iload_n hx hb dX4_take_117 rfl (lv_at hl 0 rfl) ?_
        obtain ⟨r30, e29, hf⟩ := bnd_ex hf
        refine k_i X hW (k_V (As := [.int r26]) (rest := []) X hW hml hl.1 (c_X2_works l g hDW t1 ht1 _ m24 _ e29) (r_recv X hW 0 t1 (by decide) ht1 rfl rfl) ⟨mw_406, kw_X2_works⟩ ⟨⟨rfl, rfl⟩, ko_X2_works, ⟨Nat.le_of_ble_eq_true rfl, Nat.le_of_ble_eq_true rfl⟩⟩ rfl rfl (Nat.le_of_ble_eq_true rfl) dX4_take_118 ⟨Nat.le_of_ble_eq_true rfl, Nat.le_of_ble_eq_true rfl⟩) (fun H locs hW => ?_)
        refine lv_istore (lv' := [(4, .int r30), (3, .int r26), (0, .ref (ad g 11 t0)), (1, .ref (ad g 0 t1)), (2, .int x2)]) hx hb dX4_take_121 hl (by decide) rfl (fun ls hl => ?_)
        refine lv_aload_n hx hb dX4_take_123 rfl (lv_at hl 2 rfl) ?_
        refine lv_iload hx hb dX4_take_124 (lv_at hl 0 rfl) ?_
        refine lv_aload_n hx hb dX4_take_126 rfl (lv_at hl 3 rfl) ?_
        refine gf_0_1 X hW ht1 mw_116 dX4_take_127 ?_
        refine lv_iload_n hx hb dX4_take_130 rfl (lv_at hl 4 rfl) ?_
        obtain ⟨b32, hf⟩ := chk_ex hf
        refine r_iald X hW 2 t1 (by decide) ht1 rfl b32 dX4_take_131 ?_
        refine lv_iconst (v := -1) hx hb dX4_take_132 (by decide) ?_
        refine lv_ixor hx hb dX4_take_133 ?_
        refine lv_iand hx hb dX4_take_134 ?_
        obtain ⟨m33, ex, hf⟩ := wth_ex hf
        refine pf_11_5 X hW ht0 mw_172 dX4_take_135 (fun H locs hW => ?_)
        replace hW := hW.same ex
        clear ex
        refine lv_aload_n hx hb dX4_take_138 rfl (lv_at hl 2 rfl) ?_
        refine lv_aload_n hx hb dX4_take_139 rfl (lv_at hl 3 rfl) ?_
        refine lv_iload hx hb dX4_take_140 (lv_at hl 0 rfl) ?_
        obtain ⟨r35, e34, hf⟩ := bnd_ex hf
        refine k_i X hW (k_V (As := [.int r30]) (rest := [.ref (ad g 11 t0)]) X hW hml hl.1 (c_X2_lightFor l g hDW t1 ht1 _ m33 _ e34) (r_recv X hW 0 t1 (by decide) ht1 rfl rfl) ⟨mw_422, kw_X2_lightFor⟩ ⟨⟨rfl, rfl⟩, ko_X2_lightFor, ⟨Nat.le_of_ble_eq_true rfl, Nat.le_of_ble_eq_true rfl⟩⟩ rfl rfl (Nat.le_of_ble_eq_true rfl) dX4_take_142 ⟨Nat.le_of_ble_eq_true rfl, Nat.le_of_ble_eq_true rfl⟩) (fun H locs hW => ?_)
        refine lv_iconst (v := 4) hx hb dX4_take_145 (by decide) ?_
        obtain ⟨b37, hf⟩ := chk_ex hf
        refine lv_idiv hx hb dX4_take_146 b37 ?_
        obtain ⟨m38, ex, hf⟩ := wth_ex hf
        refine pf_11_6 X hW ht0 mw_173 dX4_take_147 (fun H locs hW => ?_)
        replace hW := hW.same ex
        clear ex
        replace hW := hW.same (someinj hf).symm
        exact e_v X hr hW dX4_take_150
  have P_15 : ∀ (n15 : Nat) (x2 : Int32) (x3 : Int32) (mm : gM) (H : Heap) (locs : List Loc) (ls : Array Slot), Wd g mm s H locs → lv_has ls 5 [(0, .ref (ad g 11 t0)), (1, .ref (ad g 0 t1)), (2, .int x2), (3, .int x3)] → lX4_take_15 t0 t1 n15 x2 x3 mm = some mZ → W p l e rm_X4_take s m args below meth c H locs 0 0 (MQ below (CV g mZ) args s 0 0 (gA g)) (F0 m 15 ls []) := by
    intro n15
    induction n15 with
    | zero => intro x2 x3 mm H locs ls hW hl hf; exact (no_some hf).elim
    | succ n15 ih_15 =>
      intro x2 x3 mm H locs ls hW hl hf
      rw [lX4_take_15_s] at hf
      refine lv_iload_n hx hb dX4_take_15 rfl (lv_at hl 3 rfl) ?_
      refine lv_iload_n hx hb dX4_take_16 rfl (lv_at hl 2 rfl) ?_
      refine lv_icmp_gt (tgt := 40) hx hb dX4_take_17 (by decide) (fun c10 => ?_) (fun c10 => ?_)
      · replace hf := ite_t hf c10
        exact P_40 _ _ _ _ _ hW (lv_sub hl [0, 1, 2] rfl) hf
      · replace hf := ite_f hf c10
        refine lv_aload_n hx hb dX4_take_20 rfl (lv_at hl 0 rfl) ?_
        refine lv_dup hx hb dX4_take_21 rfl ?_
        refine gf_11_2 X hW ht0 mw_169 dX4_take_22 ?_
        refine lv_aload_n hx hb dX4_take_25 rfl (lv_at hl 1 rfl) ?_
        refine lv_iload_n hx hb dX4_take_26 rfl (lv_at hl 3 rfl) ?_
        obtain ⟨r7, e6, hf⟩ := bnd_ex hf
        refine k_i X hW (k_V (As := [.int x3]) (rest := [.int (gi mm 11 t0 2), .ref (ad g 11 t0)]) X hW hml hl.1 (c_X2_ticksOf l g hDW t1 ht1 _ mm _ e6) (r_recv X hW 0 t1 (by decide) ht1 rfl rfl) ⟨mw_405, kw_X2_ticksOf⟩ ⟨⟨rfl, rfl⟩, ko_X2_ticksOf, ⟨Nat.le_of_ble_eq_true rfl, Nat.le_of_ble_eq_true rfl⟩⟩ rfl rfl (Nat.le_of_ble_eq_true rfl) dX4_take_27 ⟨Nat.le_of_ble_eq_true rfl, Nat.le_of_ble_eq_true rfl⟩) (fun H locs hW => ?_)
        refine lv_iadd hx hb dX4_take_30 ?_
        obtain ⟨m9, ex, hf⟩ := wth_ex hf
        refine pf_11_2 X hW ht0 mw_169 dX4_take_31 (fun H locs hW => ?_)
        replace hW := hW.same ex
        clear ex
        refine lv_iinc (v := x3 + 1) (lv' := [(3, .int (x3 + 1)), (0, .ref (ad g 11 t0)), (1, .ref (ad g 0 t1)), (2, .int x2)]) hx hb dX4_take_34 hl (k := 3) rfl rfl (by decide) rfl (fun ls hl => ?_)
        refine lv_goto (tgt := 15) hx hb dX4_take_37 (by decide) ?_
        exact ih_15 _ _ _ _ _ _ hW (lv_sub hl [1, 2, 3, 0] rfl) hf
  unfold fX4_take at hf
  refine lv_aload_n hx hb dX4_take_0 rfl (lv_at hl 0 rfl) ?_
  refine lv_aload_n hx hb dX4_take_1 rfl (lv_at hl 1 rfl) ?_
  obtain ⟨r2, e1, hf⟩ := bnd_ex hf
  refine k_i X hW (k_V (As := []) (rest := [.ref (ad g 11 t0)]) X hW hml hl.1 (c_X2_roundTicks l g hDW t1 ht1  mm _ e1) (r_recv X hW 0 t1 (by decide) ht1 rfl rfl) ⟨mw_397, kw_X2_roundTicks⟩ ⟨⟨rfl, rfl⟩, ko_X2_roundTicks, ⟨Nat.le_of_ble_eq_true rfl, Nat.le_of_ble_eq_true rfl⟩⟩ rfl rfl (Nat.le_of_ble_eq_true rfl) dX4_take_2 ⟨Nat.le_of_ble_eq_true rfl, Nat.le_of_ble_eq_true rfl⟩) (fun H locs hW => ?_)
  obtain ⟨m4, ex, hf⟩ := wth_ex hf
  refine pf_11_0 X hW ht0 mw_167 dX4_take_5 (fun H locs hW => ?_)
  replace hW := hW.same ex
  clear ex
  refine lv_aload_n hx hb dX4_take_8 rfl (lv_at hl 0 rfl) ?_
  refine lv_iconst (v := 0) hx hb dX4_take_9 (by decide) ?_
  obtain ⟨m5, ex, hf⟩ := wth_ex hf
  refine pf_11_2 X hW ht0 mw_169 dX4_take_10 (fun H locs hW => ?_)
  replace hW := hW.same ex
  clear ex
  refine lv_iconst (v := 0) hx hb dX4_take_13 (by decide) ?_
  refine lv_istore_n (lv' := [(3, .int 0), (0, .ref (ad g 11 t0)), (1, .ref (ad g 0 t1)), (2, .int x2)]) hx hb dX4_take_14 rfl hl (by decide) rfl (fun ls hl => ?_)
  exact P_15 _ _ _ _ _ _ _ hW (lv_sub hl [1, 2, 3, 0] rfl) hf
set_option maxRecDepth 100000 in
set_option maxHeartbeats 4000000 in
theorem c_X4_ticksOfRound (l : Launch) (g : gG) (hDW : DW g) (t0 : Nat) (ht0 : t0 < 3) (mm : gM) (r0 : Int32) (hf : fX4_ticksOfRound t0 mm = some r0) : Met l yX4_ticksOfRound (Cond.code yX4_ticksOfRound cX4_ticksOfRound 1 (some .int) :: ALLW) rm_X4_ticksOfRound (CPre g mm [.ref (ad g 11 t0)]) (CI g mm r0) 0 0 (gA g) := by
  refine Met.ofW (cc := cX4_ticksOfRound) (maxL := 1) (ret := (some .int)) (by decide) rfl ?_
  intro p e s m args below meth c s₁ B hml hv
  obtain ⟨ha, hFx, hP0, hlo⟩ := hv
  have X : Cx g p s m args c meth RX4 cX4_ticksOfRound := Cx_of hDW hFx hlo B
  have hx := X.1
  have hb := X.2.1
  have hr := B.returns
  have hlocks := X.2.2.2.2.2.2.2
  have hW : Wd g mm s s.heap [] := ⟨hP0, va_S.rf⟩
  rw [ha, lg_entry_eq]
  have hl := lv_entry ([.ref (ad g 11 t0)] : List Value) (n := 1) (Nat.le_of_ble_eq_true rfl)
  generalize (lg_sl ([.ref (ad g 11 t0)] : List Value) ++ List.replicate (1 - (lg_sl ([.ref (ad g 11 t0)] : List Value)).length) Slot.unset).toArray = ls at hl ⊢
  have hl : lv_has ls 1 [(0, .ref (ad g 11 t0))] := hl
  rw [← ha]
  show W p l e rm_X4_ticksOfRound s m args below meth c s.heap [] 0 0 (MQ below (CI g mm r0) args s 0 0 (gA g)) (F0 m 0 ls [])
  unfold fX4_ticksOfRound at hf
  refine lv_aload_n hx hb dX4_ticksOfRound_0 rfl (lv_at hl 0 rfl) ?_
  refine gf_11_0 X hW ht0 mw_167 dX4_ticksOfRound_1 ?_
  exact e_i X hr hW (someinj hf) dX4_ticksOfRound_4
set_option maxRecDepth 100000 in
set_option maxHeartbeats 4000000 in
theorem c_X4_glowBehind (l : Launch) (g : gG) (hDW : DW g) (t0 : Nat) (ht0 : t0 < 3) (x1 : Int32) (x2 : Int32) (x3 : Int32) (mm : gM) (r0 : Int32) (hf : fX4_glowBehind t0 x1 x2 x3 mm = some r0) : Met l yX4_glowBehind (Cond.code yX4_glowBehind cX4_glowBehind 6 (some .int) :: ALLW) rm_X4_glowBehind (CPre g mm [.ref (ad g 11 t0), .int x1, .int x2, .int x3]) (CI g mm r0) 0 0 (gA g) := by
  refine Met.ofW (cc := cX4_glowBehind) (maxL := 6) (ret := (some .int)) (by decide) rfl ?_
  intro p e s m args below meth c s₁ B hml hv
  obtain ⟨ha, hFx, hP0, hlo⟩ := hv
  have X : Cx g p s m args c meth RX4 cX4_glowBehind := Cx_of hDW hFx hlo B
  have hx := X.1
  have hb := X.2.1
  have hr := B.returns
  have hlocks := X.2.2.2.2.2.2.2
  have hW : Wd g mm s s.heap [] := ⟨hP0, va_S.rf⟩
  rw [ha, lg_entry_eq]
  have hl := lv_entry ([.ref (ad g 11 t0), .int x1, .int x2, .int x3] : List Value) (n := 6) (Nat.le_of_ble_eq_true rfl)
  generalize (lg_sl ([.ref (ad g 11 t0), .int x1, .int x2, .int x3] : List Value) ++ List.replicate (6 - (lg_sl ([.ref (ad g 11 t0), .int x1, .int x2, .int x3] : List Value)).length) Slot.unset).toArray = ls at hl ⊢
  have hl : lv_has ls 6 [(0, .ref (ad g 11 t0)), (1, .int x1), (2, .int x2), (3, .int x3)] := hl
  rw [← ha]
  show W p l e rm_X4_glowBehind s m args below meth c s.heap [] 0 0 (MQ below (CI g mm r0) args s 0 0 (gA g)) (F0 m 0 ls [])
  have P_112 : ∀ (x5 : Int32) (H : Heap) (locs : List Loc) (ls : Array Slot), Wd g mm s H locs → lv_has ls 6 [(5, .int x5)] → jX4_glowBehind_112 t0 mm x5 = some r0 → W p l e rm_X4_glowBehind s m args below meth c H locs 0 0 (MQ below (CI g mm r0) args s 0 0 (gA g)) (F0 m 112 ls []) := by
    intro x5 H locs ls hW hl hf
    unfold jX4_glowBehind_112 at hf
    refine lv_iload hx hb dX4_glowBehind_112 (lv_at hl 0 rfl) ?_
    exact e_i X hr hW (someinj hf) dX4_glowBehind_114
  have P_70 : ∀ (x1 : Int32) (x3 : Int32) (x5 : Int32) (H : Heap) (locs : List Loc) (ls : Array Slot), Wd g mm s H locs → lv_has ls 6 [(0, .ref (ad g 11 t0)), (1, .int x1), (3, .int x3), (5, .int x5)] → jX4_glowBehind_70 t0 mm x1 x3 x5 = some r0 → W p l e rm_X4_glowBehind s m args below meth c H locs 0 0 (MQ below (CI g mm r0) args s 0 0 (gA g)) (F0 m 70 ls []) := by
    intro x1 x3 x5 H locs ls hW hl hf
    unfold jX4_glowBehind_70 at hf
    refine lv_iload_n hx hb dX4_glowBehind_70 rfl (lv_at hl 1 rfl) ?_
    refine lv_aload_n hx hb dX4_glowBehind_71 rfl (lv_at hl 0 rfl) ?_
    refine gf_11_1 X hW ht0 mw_168 dX4_glowBehind_72 ?_
    refine lv_icmp_ne (tgt := 112) hx hb dX4_glowBehind_75 (by decide) (fun c15 => ?_) (fun c15 => ?_)
    · replace hf := ite_f hf c15
      exact P_112 _ _ _ _ hW (lv_sub hl [3] rfl) hf
    · replace hf := ite_t hf c15
      refine lv_aload_n hx hb dX4_glowBehind_78 rfl (lv_at hl 0 rfl) ?_
      refine gf_11_1 X hW ht0 mw_168 dX4_glowBehind_79 ?_
      refine lv_aload_n hx hb dX4_glowBehind_82 rfl (lv_at hl 0 rfl) ?_
      refine gf_11_2 X hW ht0 mw_169 dX4_glowBehind_83 ?_
      refine lv_icmp_ge (tgt := 112) hx hb dX4_glowBehind_86 (by decide) (fun c14 => ?_) (fun c14 => ?_)
      · replace hf := ite_t hf c14
        exact P_112 _ _ _ _ hW (lv_sub hl [3] rfl) hf
      · replace hf := ite_f hf c14
        refine lv_aload_n hx hb dX4_glowBehind_89 rfl (lv_at hl 0 rfl) ?_
        refine gf_11_5 X hW ht0 mw_172 dX4_glowBehind_90 ?_
        refine lv_iload_n hx hb dX4_glowBehind_93 rfl (lv_at hl 2 rfl) ?_
        obtain ⟨r11, e10, hf⟩ := bnd_ex hf
        refine k_i X hW (k_N (As := [.int (gi mm 11 t0 5), .int x3]) (rest := []) X hW hml hl.1 (c_X5_bit l g hDW  _ _ mm _ e10) (X.2.2.2.2.2.2.1.2.2.1.2.2.2.2.2.2.2.2.1) kw_X5_bit ⟨⟨rfl, rfl⟩, ko_X5_bit, ⟨Nat.le_of_ble_eq_true rfl, Nat.le_of_ble_eq_true rfl⟩⟩ rfl rfl (Nat.le_of_ble_eq_true rfl) dX4_glowBehind_94 ⟨Nat.le_of_ble_eq_true rfl, Nat.le_of_ble_eq_true rfl⟩) (fun H locs hW => ?_)
        refine lv_iconst (v := 1) hx hb dX4_glowBehind_97 (by decide) ?_
        refine lv_icmp_ne (tgt := 112) hx hb dX4_glowBehind_98 (by decide) (fun c13 => ?_) (fun c13 => ?_)
        · replace hf := ite_f hf c13
          exact P_112 _ _ _ _ hW (lv_sub hl [3] rfl) hf
        · replace hf := ite_t hf c13
          refine lv_iload hx hb dX4_glowBehind_101 (lv_at hl 3 rfl) ?_
          refine lv_aload_n hx hb dX4_glowBehind_103 rfl (lv_at hl 0 rfl) ?_
          refine gf_11_6 X hW ht0 mw_173 dX4_glowBehind_104 ?_
          refine r_mx X hml hl.1 mw_449 kw_mx (Nat.le_of_ble_eq_true rfl) (Nat.le_of_ble_eq_true rfl) (Nat.le_of_ble_eq_true rfl) (Nat.le_of_ble_eq_true rfl) dX4_glowBehind_107 ?_
          refine lv_istore (lv' := [(5, .int (mx x5 (gi mm 11 t0 6))), (0, .ref (ad g 11 t0)), (1, .int x1), (3, .int x3)]) hx hb dX4_glowBehind_110 hl (by decide) rfl (fun ls hl => ?_)
          exact P_112 _ _ _ _ hW (lv_sub hl [0] rfl) hf
  have P_21 : ∀ (x1 : Int32) (x3 : Int32) (s0 : Int32) (H : Heap) (locs : List Loc) (ls : Array Slot), Wd g mm s H locs → lv_has ls 6 [(0, .ref (ad g 11 t0)), (1, .int x1), (3, .int x3)] → jX4_glowBehind_21 t0 mm x1 x3 s0 = some r0 → W p l e rm_X4_glowBehind s m args below meth c H locs 0 0 (MQ below (CI g mm r0) args s 0 0 (gA g)) (F0 m 21 ls [.int s0]) := by
    intro x1 x3 s0 H locs ls hW hl hf
    unfold jX4_glowBehind_21 at hf
    refine lv_istore (lv' := [(4, .int s0), (0, .ref (ad g 11 t0)), (1, .int x1), (3, .int x3)]) hx hb dX4_glowBehind_21 hl (by decide) rfl (fun ls hl => ?_)
    refine lv_iconst (v := 0) hx hb dX4_glowBehind_23 (by decide) ?_
    refine lv_iload hx hb dX4_glowBehind_24 (lv_at hl 0 rfl) ?_
    refine r_mx X hml hl.1 mw_449 kw_mx (Nat.le_of_ble_eq_true rfl) (Nat.le_of_ble_eq_true rfl) (Nat.le_of_ble_eq_true rfl) (Nat.le_of_ble_eq_true rfl) dX4_glowBehind_26 ?_
    refine lv_istore (lv' := [(5, .int (mx 0 s0)), (4, .int s0), (0, .ref (ad g 11 t0)), (1, .int x1), (3, .int x3)]) hx hb dX4_glowBehind_29 hl (by decide) rfl (fun ls hl => ?_)
    refine lv_iload_n hx hb dX4_glowBehind_31 rfl (lv_at hl 3 rfl) ?_
    refine lv_aload_n hx hb dX4_glowBehind_32 rfl (lv_at hl 2 rfl) ?_
    refine gf_11_1 X hW ht0 mw_168 dX4_glowBehind_33 ?_
    refine lv_icmp_lt (tgt := 70) hx hb dX4_glowBehind_36 (by decide) (fun c9 => ?_) (fun c9 => ?_)
    · replace hf := ite_t hf c9
      exact P_70 _ _ _ _ _ _ hW (lv_sub hl [2, 3, 4, 0] rfl) hf
    · replace hf := ite_f hf c9
      refine lv_iload_n hx hb dX4_glowBehind_39 rfl (lv_at hl 3 rfl) ?_
      refine lv_aload_n hx hb dX4_glowBehind_40 rfl (lv_at hl 2 rfl) ?_
      refine gf_11_2 X hW ht0 mw_169 dX4_glowBehind_41 ?_
      refine lv_icmp_ge (tgt := 70) hx hb dX4_glowBehind_44 (by decide) (fun c8 => ?_) (fun c8 => ?_)
      · replace hf := ite_t hf c8
        exact P_70 _ _ _ _ _ _ hW (lv_sub hl [2, 3, 4, 0] rfl) hf
      · replace hf := ite_f hf c8
        refine lv_aload_n hx hb dX4_glowBehind_47 rfl (lv_at hl 2 rfl) ?_
        refine gf_11_3 X hW ht0 mw_170 dX4_glowBehind_48 ?_
        refine lv_iload_n hx hb dX4_glowBehind_51 rfl (lv_at hl 4 rfl) ?_
        obtain ⟨r4, e3, hf⟩ := bnd_ex hf
        refine k_i X hW (k_N (As := [.int (gi mm 11 t0 3), .int x3]) (rest := []) X hW hml hl.1 (c_X5_bit l g hDW  _ _ mm _ e3) (X.2.2.2.2.2.2.1.2.2.1.2.2.2.2.2.2.2.2.1) kw_X5_bit ⟨⟨rfl, rfl⟩, ko_X5_bit, ⟨Nat.le_of_ble_eq_true rfl, Nat.le_of_ble_eq_true rfl⟩⟩ rfl rfl (Nat.le_of_ble_eq_true rfl) dX4_glowBehind_52 ⟨Nat.le_of_ble_eq_true rfl, Nat.le_of_ble_eq_true rfl⟩) (fun H locs hW => ?_)
        refine lv_iconst (v := 1) hx hb dX4_glowBehind_55 (by decide) ?_
        refine lv_icmp_ne (tgt := 70) hx hb dX4_glowBehind_56 (by decide) (fun c7 => ?_) (fun c7 => ?_)
        · replace hf := ite_f hf c7
          exact P_70 _ _ _ _ _ _ hW (lv_sub hl [2, 3, 4, 0] rfl) hf
        · replace hf := ite_t hf c7
          refine lv_iload hx hb dX4_glowBehind_59 (lv_at hl 0 rfl) ?_
          refine lv_aload_n hx hb dX4_glowBehind_61 rfl (lv_at hl 2 rfl) ?_
          refine gf_11_4 X hW ht0 mw_171 dX4_glowBehind_62 ?_
          refine r_mx X hml hl.1 mw_449 kw_mx (Nat.le_of_ble_eq_true rfl) (Nat.le_of_ble_eq_true rfl) (Nat.le_of_ble_eq_true rfl) (Nat.le_of_ble_eq_true rfl) dX4_glowBehind_65 ?_
          obtain ⟨v6, ex, hf⟩ := wth_ex hf
          refine lv_nm ex ?_
          clear ex
          refine lv_istore (lv' := [(5, .int v6), (4, .int s0), (0, .ref (ad g 11 t0)), (1, .int x1), (3, .int x3)]) hx hb dX4_glowBehind_68 hl (by decide) rfl (fun ls hl => ?_)
          exact P_70 _ _ _ _ _ _ hW (lv_sub hl [2, 3, 4, 0] rfl) hf
  unfold fX4_glowBehind at hf
  refine lv_aload_n hx hb dX4_glowBehind_0 rfl (lv_at hl 0 rfl) ?_
  refine gf_11_7 X hW ht0 mw_174 dX4_glowBehind_1 ?_
  refine lv_if_le (tgt := 20) hx hb dX4_glowBehind_4 (by decide) (fun c2 => ?_) (fun c2 => ?_)
  · replace hf := ite_t hf c2
    refine lv_iconst (v := 0) hx hb dX4_glowBehind_20 (by decide) ?_
    exact P_21 _ _ _ _ _ _ hW (lv_sub hl [0, 1, 3] rfl) hf
  · replace hf := ite_f hf c2
    refine lv_iload_n hx hb dX4_glowBehind_7 rfl (lv_at hl 2 rfl) ?_
    refine lv_iload_n hx hb dX4_glowBehind_8 rfl (lv_at hl 2 rfl) ?_
    refine lv_aload_n hx hb dX4_glowBehind_9 rfl (lv_at hl 0 rfl) ?_
    refine gf_11_7 X hW ht0 mw_174 dX4_glowBehind_10 ?_
    obtain ⟨b1, hf⟩ := chk_ex hf
    refine lv_idiv hx hb dX4_glowBehind_13 b1 ?_
    refine lv_isub hx hb dX4_glowBehind_14 ?_
    refine lv_iconst (v := 1) hx hb dX4_glowBehind_15 (by decide) ?_
    refine lv_isub hx hb dX4_glowBehind_16 ?_
    refine lv_goto (tgt := 21) hx hb dX4_glowBehind_17 (by decide) ?_
    exact P_21 _ _ _ _ _ _ hW (lv_sub hl [0, 1, 3] rfl) hf
set_option maxRecDepth 100000 in
set_option maxHeartbeats 4000000 in
theorem c_X1_lookAt (l : Launch) (g : gG) (hDW : DW g) (t0 : Nat) (ht0 : t0 < 2) (x1 : Int32) (x2 : Int32) (mm : gM) (mZ : gM) (hf : fX1_lookAt t0 x1 x2 mm = some mZ) : Met l yX1_lookAt (Cond.code yX1_lookAt cX1_lookAt 11 none :: ALLW) rm_X1_lookAt (CPre g mm [.ref (ad g 6 t0), .int x1, .int x2]) (CV g mZ) 0 0 (gA g) := by
  refine Met.ofW (cc := cX1_lookAt) (maxL := 11) (ret := none) (by decide) rfl ?_
  intro p e s m args below meth c s₁ B hml hv
  obtain ⟨ha, hFx, hP0, hlo⟩ := hv
  have X : Cx g p s m args c meth RX1 cX1_lookAt := Cx_of hDW hFx hlo B
  have hx := X.1
  have hb := X.2.1
  have hr := B.returns
  have hlocks := X.2.2.2.2.2.2.2
  have hW : Wd g mm s s.heap [] := ⟨hP0, va_S.rf⟩
  rw [ha, lg_entry_eq]
  have hl := lv_entry ([.ref (ad g 6 t0), .int x1, .int x2] : List Value) (n := 11) (Nat.le_of_ble_eq_true rfl)
  generalize (lg_sl ([.ref (ad g 6 t0), .int x1, .int x2] : List Value) ++ List.replicate (11 - (lg_sl ([.ref (ad g 6 t0), .int x1, .int x2] : List Value)).length) Slot.unset).toArray = ls at hl ⊢
  have hl : lv_has ls 11 [(0, .ref (ad g 6 t0)), (1, .int x1), (2, .int x2)] := hl
  rw [← ha]
  show W p l e rm_X1_lookAt s m args below meth c s.heap [] 0 0 (MQ below (CV g mZ) args s 0 0 (gA g)) (F0 m 0 ls [])
  have P_147 : ∀ (x1 : Int32) (x6 : Int32) (x7 : Int32) (s1 : Int32) (s2 : Int32) (mm : gM) (H : Heap) (locs : List Loc) (ls : Array Slot), Wd g mm s H locs → lv_has ls 11 [(0, .ref (ad g 6 t0)), (1, .int x1), (6, .int x6), (7, .int x7)] → jX1_lookAt_147 t0 x1 x6 x7 s1 s2 mm = some mZ → W p l e rm_X1_lookAt s m args below meth c H locs 0 0 (MQ below (CV g mZ) args s 0 0 (gA g)) (F0 m 147 ls [.int s2, .int s1, .ref (ad g 7 t0)]) := by
    intro x1 x6 x7 s1 s2 mm H locs ls hW hl hf
    unfold jX1_lookAt_147 at hf
    obtain ⟨b10, hf⟩ := chk_ex hf
    obtain ⟨m11, ex, hf⟩ := wth_ex hf
    refine r_iast X hW 7 t0 (by decide) ht0 (fun _ => rfl) b10 dX1_lookAt_147 (fun H locs hW => ?_)
    replace hW := hW.same ex
    clear ex
    refine lv_aload_n hx hb dX1_lookAt_148 rfl (lv_at hl 0 rfl) ?_
    refine gf_6_2 X hW ht0 mw_197 dX1_lookAt_149 ?_
    refine lv_iload_n hx hb dX1_lookAt_152 rfl (lv_at hl 1 rfl) ?_
    refine lv_iload hx hb dX1_lookAt_153 (lv_at hl 2 rfl) ?_
    obtain ⟨b12, hf⟩ := chk_ex hf
    obtain ⟨m13, ex, hf⟩ := wth_ex hf
    refine r_iast X hW 8 t0 (by decide) ht0 (fun _ => rfl) b12 dX1_lookAt_155 (fun H locs hW => ?_)
    replace hW := hW.same ex
    clear ex
    refine lv_aload_n hx hb dX1_lookAt_156 rfl (lv_at hl 0 rfl) ?_
    refine gf_6_3 X hW ht0 mw_199 dX1_lookAt_157 ?_
    refine lv_iload_n hx hb dX1_lookAt_160 rfl (lv_at hl 1 rfl) ?_
    refine lv_iload hx hb dX1_lookAt_161 (lv_at hl 3 rfl) ?_
    obtain ⟨b14, hf⟩ := chk_ex hf
    obtain ⟨m15, ex, hf⟩ := wth_ex hf
    refine r_iast X hW 9 t0 (by decide) ht0 (fun _ => rfl) b14 dX1_lookAt_163 (fun H locs hW => ?_)
    replace hW := hW.same ex
    clear ex
    replace hW := hW.same (someinj hf).symm
    exact e_v X hr hW dX1_lookAt_164
  have P_130 : ∀ (x1 : Int32) (x3 : Int32) (x5 : Int32) (x6 : Int32) (x7 : Int32) (mm : gM) (H : Heap) (locs : List Loc) (ls : Array Slot), Wd g mm s H locs → lv_has ls 11 [(0, .ref (ad g 6 t0)), (1, .int x1), (3, .int x3), (5, .int x5), (6, .int x6), (7, .int x7)] → jX1_lookAt_130 t0 x1 x3 x5 x6 x7 mm = some mZ → W p l e rm_X1_lookAt s m args below meth c H locs 0 0 (MQ below (CV g mZ) args s 0 0 (gA g)) (F0 m 130 ls []) := by
    intro x1 x3 x5 x6 x7 mm H locs ls hW hl hf
    unfold jX1_lookAt_130 at hf
    refine lv_aload_n hx hb dX1_lookAt_130 rfl (lv_at hl 0 rfl) ?_
    refine gf_6_1 X hW ht0 mw_195 dX1_lookAt_131 ?_
    refine lv_iload_n hx hb dX1_lookAt_134 rfl (lv_at hl 1 rfl) ?_
    refine lv_iload_n hx hb dX1_lookAt_135 rfl (lv_at hl 2 rfl) ?_
    refine lv_if_le (tgt := 146) hx hb dX1_lookAt_136 (by decide) (fun c9 => ?_) (fun c9 => ?_)
    · replace hf := ite_t hf c9
      refine lv_iconst (v := 0) hx hb dX1_lookAt_146 (by decide) ?_
      exact P_147 _ _ _ _ _ _ _ _ _ hW (lv_sub hl [0, 1, 4, 5] rfl) hf
    · replace hf := ite_f hf c9
      refine lv_iload hx hb dX1_lookAt_139 (lv_at hl 3 rfl) ?_
      refine lv_iload_n hx hb dX1_lookAt_141 rfl (lv_at hl 2 rfl) ?_
      obtain ⟨b8, hf⟩ := chk_ex hf
      refine lv_idiv hx hb dX1_lookAt_142 b8 ?_
      refine lv_goto (tgt := 147) hx hb dX1_lookAt_143 (by decide) ?_
      exact P_147 _ _ _ _ _ _ _ _ _ hW (lv_sub hl [0, 1, 4, 5] rfl) hf
  have P_121 : ∀ (x1 : Int32) (x3 : Int32) (x5 : Int32) (x6 : Int32) (x7 : Int32) (mm : gM) (H : Heap) (locs : List Loc) (ls : Array Slot), Wd g mm s H locs → lv_has ls 11 [(0, .ref (ad g 6 t0)), (1, .int x1), (3, .int x3), (5, .int x5), (6, .int x6), (7, .int x7)] → jX1_lookAt_121 t0 x1 x3 x5 x6 x7 mm = some mZ → W p l e rm_X1_lookAt s m args below meth c H locs 0 0 (MQ below (CV g mZ) args s 0 0 (gA g)) (F0 m 121 ls []) := by
    intro x1 x3 x5 x6 x7 mm H locs ls hW hl hf
    unfold jX1_lookAt_121 at hf
    refine lv_goto (tgt := 130) hx hb dX1_lookAt_121 (by decide) ?_
    exact P_130 _ _ _ _ _ _ _ _ _ hW (lv_sub hl [0, 1, 2, 3, 4, 5] rfl) hf
  have P_31 : ∀ (n31 : Nat) (x1 : Int32) (x2 : Int32) (x3 : Int32) (x4 : Int32) (x5 : Int32) (x6 : Int32) (x7 : Int32) (x8 : Int32) (mm : gM) (H : Heap) (locs : List Loc) (ls : Array Slot), Wd g mm s H locs → lv_has ls 11 [(0, .ref (ad g 6 t0)), (1, .int x1), (2, .int x2), (3, .int x3), (4, .int x4), (5, .int x5), (6, .int x6), (7, .int x7), (8, .int x8)] → lX1_lookAt_31 t0 n31 x1 x2 x3 x4 x5 x6 x7 x8 mm = some mZ → W p l e rm_X1_lookAt s m args below meth c H locs 0 0 (MQ below (CV g mZ) args s 0 0 (gA g)) (F0 m 31 ls []) := by
    intro n31
    induction n31 with
    | zero => intro x1 x2 x3 x4 x5 x6 x7 x8 mm H locs ls hW hl hf; exact (no_some hf).elim
    | succ n31 ih_31 =>
      have P_114 : ∀ (x1 : Int32) (x2 : Int32) (x3 : Int32) (x4 : Int32) (x5 : Int32) (x6 : Int32) (x7 : Int32) (x8 : Int32) (x9 : Int32) (mm : gM) (H : Heap) (locs : List Loc) (ls : Array Slot), Wd g mm s H locs → lv_has ls 11 [(0, .ref (ad g 6 t0)), (1, .int x1), (2, .int x2), (3, .int x3), (4, .int x4), (5, .int x5), (6, .int x6), (7, .int x7), (8, .int x8), (9, .int x9)] → jX1_lookAt_114 (lX1_lookAt_31 t0 n31) t0 x1 x2 x3 x4 x5 x6 x7 x8 x9 mm = some mZ → W p l e rm_X1_lookAt s m args below meth c H locs 0 0 (MQ below (CV g mZ) args s 0 0 (gA g)) (F0 m 114 ls []) := by
        intro x1 x2 x3 x4 x5 x6 x7 x8 x9 mm H locs ls hW hl hf
        unfold jX1_lookAt_114 at hf
        refine lv_iload hx hb dX1_lookAt_114 (lv_at hl 4 rfl) ?_
        refine lv_iload hx hb dX1_lookAt_116 (lv_at hl 9 rfl) ?_
        refine lv_icmp_ne (tgt := 124) hx hb dX1_lookAt_118 (by decide) (fun c20 => ?_) (fun c20 => ?_)
        · replace hf := ite_f hf c20
          refine lv_iinc (v := x8 + 1) (lv' := [(8, .int (x8 + 1)), (0, .ref (ad g 6 t0)), (1, .int x1), (2, .int x2), (3, .int x3), (4, .int x4), (5, .int x5), (6, .int x6), (7, .int x7), (9, .int x9)]) hx hb dX1_lookAt_124 hl (k := 8) rfl rfl (by decide) rfl (fun ls hl => ?_)
          refine lv_goto (tgt := 31) hx hb dX1_lookAt_127 (by decide) ?_
          exact ih_31 _ _ _ _ _ _ _ _ _ _ _ _ hW (lv_sub hl [1, 2, 3, 4, 5, 6, 7, 8, 0] rfl) hf
        · replace hf := ite_t hf c20
          exact P_121 _ _ _ _ _ _ _ _ _ hW (lv_sub hl [0, 1, 3, 5, 6, 7] rfl) hf
      have P_63 : ∀ (n63 : Nat) (x1 : Int32) (x2 : Int32) (x3 : Int32) (x4 : Int32) (x5 : Int32) (x6 : Int32) (x7 : Int32) (x8 : Int32) (x9 : Int32) (x10 : Int32) (mm : gM) (H : Heap) (locs : List Loc) (ls : Array Slot), Wd g mm s H locs → lv_has ls 11 [(0, .ref (ad g 6 t0)), (1, .int x1), (2, .int x2), (3, .int x3), (4, .int x4), (5, .int x5), (6, .int x6), (7, .int x7), (8, .int x8), (9, .int x9), (10, .int x10)] → lX1_lookAt_63 (lX1_lookAt_31 t0 n31) t0 n63 x1 x2 x3 x4 x5 x6 x7 x8 x9 x10 mm = some mZ → W p l e rm_X1_lookAt s m args below meth c H locs 0 0 (MQ below (CV g mZ) args s 0 0 (gA g)) (F0 m 63 ls []) := by
        intro n63
        induction n63 with
        | zero => intro x1 x2 x3 x4 x5 x6 x7 x8 x9 x10 mm H locs ls hW hl hf; exact (no_some hf).elim
        | succ n63 ih_63 =>
          intro x1 x2 x3 x4 x5 x6 x7 x8 x9 x10 mm H locs ls hW hl hf
          rw [lX1_lookAt_63_s] at hf
          refine lv_iload hx hb dX1_lookAt_63 (lv_at hl 10 rfl) ?_
          refine lv_iload_n hx hb dX1_lookAt_65 rfl (lv_at hl 3 rfl) ?_
          refine lv_icmp_ge (tgt := 114) hx hb dX1_lookAt_66 (by decide) (fun c19 => ?_) (fun c19 => ?_)
          · replace hf := ite_t hf c19
            exact P_114 _ _ _ _ _ _ _ _ _ _ _ _ _ hW (lv_sub hl [0, 1, 2, 3, 4, 5, 6, 7, 8, 9] rfl) hf
          · replace hf := ite_f hf c19
            refine lv_aload_n hx hb dX1_lookAt_69 rfl (lv_at hl 0 rfl) ?_
            refine gf_6_5 X hW ht0 mw_202 dX1_lookAt_70 ?_
            refine lv_iload hx hb dX1_lookAt_73 (lv_at hl 10 rfl) ?_
            refine lv_iload hx hb dX1_lookAt_75 (lv_at hl 4 rfl) ?_
            refine lv_iload_n hx hb dX1_lookAt_77 rfl (lv_at hl 2 rfl) ?_
            obtain ⟨r17, e16, hf⟩ := bnd_ex hf
            refine k_i X hW (k_V (As := [.int x10, .int x4, .int x2]) (rest := []) X hW hml hl.1 (c_X4_glowBehind l g hDW t0 (Nat.lt_of_lt_of_le ht0 (by decide)) _ _ _ mm _ e16) (r_recv X hW 11 t0 (by decide) (Nat.lt_of_lt_of_le ht0 (by decide)) rfl rfl) ⟨mw_445, kw_X4_glowBehind⟩ ⟨⟨rfl, rfl⟩, ko_X4_glowBehind, ⟨Nat.le_of_ble_eq_true rfl, Nat.le_of_ble_eq_true rfl⟩⟩ rfl rfl (Nat.le_of_ble_eq_true rfl) dX1_lookAt_78 ⟨Nat.le_of_ble_eq_true rfl, Nat.le_of_ble_eq_true rfl⟩) (fun H locs hW => ?_)
            refine lv_istore (lv' := [(4, .int r17), (0, .ref (ad g 6 t0)), (1, .int x1), (2, .int x2), (3, .int x3), (5, .int x5), (6, .int x6), (7, .int x7), (8, .int x8), (9, .int x9), (10, .int x10)]) hx hb dX1_lookAt_81 hl (by decide) rfl (fun ls hl => ?_)
            refine lv_iload hx hb dX1_lookAt_83 (lv_at hl 5 rfl) ?_
            refine lv_iload hx hb dX1_lookAt_85 (lv_at hl 0 rfl) ?_
            refine lv_iadd hx hb dX1_lookAt_87 ?_
            refine lv_istore (lv' := [(5, .int (x5 + r17)), (4, .int r17), (0, .ref (ad g 6 t0)), (1, .int x1), (2, .int x2), (3, .int x3), (6, .int x6), (7, .int x7), (8, .int x8), (9, .int x9), (10, .int x10)]) hx hb dX1_lookAt_88 hl (by decide) rfl (fun ls hl => ?_)
            refine lv_iload hx hb dX1_lookAt_90 (lv_at hl 6 rfl) ?_
            refine lv_iload hx hb dX1_lookAt_92 (lv_at hl 1 rfl) ?_
            refine r_mx X hml hl.1 mw_451 kw_mx (Nat.le_of_ble_eq_true rfl) (Nat.le_of_ble_eq_true rfl) (Nat.le_of_ble_eq_true rfl) (Nat.le_of_ble_eq_true rfl) dX1_lookAt_94 ?_
            refine lv_istore (lv' := [(6, .int (mx x6 r17)), (5, .int (x5 + r17)), (4, .int r17), (0, .ref (ad g 6 t0)), (1, .int x1), (2, .int x2), (3, .int x3), (7, .int x7), (8, .int x8), (9, .int x9), (10, .int x10)]) hx hb dX1_lookAt_97 hl (by decide) rfl (fun ls hl => ?_)
            refine lv_iload hx hb dX1_lookAt_99 (lv_at hl 7 rfl) ?_
            refine lv_iload hx hb dX1_lookAt_101 (lv_at hl 2 rfl) ?_
            refine r_mn X hml hl.1 mw_452 kw_mn (Nat.le_of_ble_eq_true rfl) (Nat.le_of_ble_eq_true rfl) (Nat.le_of_ble_eq_true rfl) (Nat.le_of_ble_eq_true rfl) dX1_lookAt_103 ?_
            refine lv_istore (lv' := [(7, .int (mn x7 r17)), (6, .int (mx x6 r17)), (5, .int (x5 + r17)), (4, .int r17), (0, .ref (ad g 6 t0)), (1, .int x1), (2, .int x2), (3, .int x3), (8, .int x8), (9, .int x9), (10, .int x10)]) hx hb dX1_lookAt_106 hl (by decide) rfl (fun ls hl => ?_)
            refine lv_iinc (v := x10 + 1) (lv' := [(10, .int (x10 + 1)), (7, .int (mn x7 r17)), (6, .int (mx x6 r17)), (5, .int (x5 + r17)), (4, .int r17), (0, .ref (ad g 6 t0)), (1, .int x1), (2, .int x2), (3, .int x3), (8, .int x8), (9, .int x9)]) hx hb dX1_lookAt_108 hl (k := 10) rfl rfl (by decide) rfl (fun ls hl => ?_)
            refine lv_goto (tgt := 63) hx hb dX1_lookAt_111 (by decide) ?_
            exact ih_63 _ _ _ _ _ _ _ _ _ _ _ _ _ _ hW (lv_sub hl [5, 6, 7, 8, 4, 3, 2, 1, 9, 10, 0] rfl) hf
      have P_58 : ∀ (x1 : Int32) (x2 : Int32) (x3 : Int32) (x4 : Int32) (x5 : Int32) (x6 : Int32) (x8 : Int32) (x9 : Int32) (s0 : Int32) (mm : gM) (H : Heap) (locs : List Loc) (ls : Array Slot), Wd g mm s H locs → lv_has ls 11 [(0, .ref (ad g 6 t0)), (1, .int x1), (2, .int x2), (3, .int x3), (4, .int x4), (5, .int x5), (6, .int x6), (8, .int x8), (9, .int x9)] → jX1_lookAt_58 (lX1_lookAt_31 t0 n31) t0 x1 x2 x3 x4 x5 x6 x8 x9 s0 mm = some mZ → W p l e rm_X1_lookAt s m args below meth c H locs 0 0 (MQ below (CV g mZ) args s 0 0 (gA g)) (F0 m 58 ls [.int s0]) := by
        intro x1 x2 x3 x4 x5 x6 x8 x9 s0 mm H locs ls hW hl hf
        unfold jX1_lookAt_58 at hf
        refine lv_istore (lv' := [(7, .int s0), (0, .ref (ad g 6 t0)), (1, .int x1), (2, .int x2), (3, .int x3), (4, .int x4), (5, .int x5), (6, .int x6), (8, .int x8), (9, .int x9)]) hx hb dX1_lookAt_58 hl (by decide) rfl (fun ls hl => ?_)
        refine lv_iconst (v := 0) hx hb dX1_lookAt_60 (by decide) ?_
        refine lv_istore (lv' := [(10, .int 0), (7, .int s0), (0, .ref (ad g 6 t0)), (1, .int x1), (2, .int x2), (3, .int x3), (4, .int x4), (5, .int x5), (6, .int x6), (8, .int x8), (9, .int x9)]) hx hb dX1_lookAt_61 hl (by decide) rfl (fun ls hl => ?_)
        exact P_63 _ _ _ _ _ _ _ _ _ _ _ _ _ _ _ hW (lv_sub hl [2, 3, 4, 5, 6, 7, 8, 1, 9, 10, 0] rfl) hf
      intro x1 x2 x3 x4 x5 x6 x7 x8 mm H locs ls hW hl hf
      rw [lX1_lookAt_31_s] at hf
      refine lv_iload hx hb dX1_lookAt_31 (lv_at hl 8 rfl) ?_
      refine lv_bipush (v := 8) hx hb dX1_lookAt_33 (by decide) ?_
      refine lv_icmp_ge (tgt := 130) hx hb dX1_lookAt_35 (by decide) (fun c7 => ?_) (fun c7 => ?_)
      · replace hf := ite_t hf c7
        exact P_130 _ _ _ _ _ _ _ _ _ hW (lv_sub hl [0, 1, 3, 5, 6, 7] rfl) hf
      · replace hf := ite_f hf c7
        refine lv_iload hx hb dX1_lookAt_38 (lv_at hl 4 rfl) ?_
        refine lv_istore (lv' := [(9, .int x4), (0, .ref (ad g 6 t0)), (1, .int x1), (2, .int x2), (3, .int x3), (4, .int x4), (5, .int x5), (6, .int x6), (7, .int x7), (8, .int x8)]) hx hb dX1_lookAt_40 hl (by decide) rfl (fun ls hl => ?_)
        refine lv_iconst (v := 0) hx hb dX1_lookAt_42 (by decide) ?_
        refine lv_istore (lv' := [(5, .int 0), (9, .int x4), (0, .ref (ad g 6 t0)), (1, .int x1), (2, .int x2), (3, .int x3), (4, .int x4), (6, .int x6), (7, .int x7), (8, .int x8)]) hx hb dX1_lookAt_43 hl (by decide) rfl (fun ls hl => ?_)
        refine lv_iconst (v := 0) hx hb dX1_lookAt_45 (by decide) ?_
        refine lv_istore (lv' := [(6, .int 0), (5, .int 0), (9, .int x4), (0, .ref (ad g 6 t0)), (1, .int x1), (2, .int x2), (3, .int x3), (4, .int x4), (7, .int x7), (8, .int x8)]) hx hb dX1_lookAt_46 hl (by decide) rfl (fun ls hl => ?_)
        refine lv_iload_n hx hb dX1_lookAt_48 rfl (lv_at hl 6 rfl) ?_
        refine lv_if_le (tgt := 57) hx hb dX1_lookAt_49 (by decide) (fun c6 => ?_) (fun c6 => ?_)
        · replace hf := ite_t hf c6
          refine lv_iconst (v := 0) hx hb dX1_lookAt_57 (by decide) ?_
          exact P_58 _ _ _ _ _ _ _ _ _ _ _ _ _ hW (lv_sub hl [3, 4, 5, 6, 7, 1, 0, 9, 2] rfl) hf
        · replace hf := ite_f hf c6
          refine lv_ldc hx hb X.2.2.1 (X.2.2.2.1 _ mw_444) dX1_lookAt_52 ?_
          refine lv_goto (tgt := 58) hx hb dX1_lookAt_54 (by decide) ?_
          exact P_58 _ _ _ _ _ _ _ _ _ _ _ _ _ hW (lv_sub hl [3, 4, 5, 6, 7, 1, 0, 9, 2] rfl) hf
  unfold fX1_lookAt at hf
  refine lv_aload_n hx hb dX1_lookAt_0 rfl (lv_at hl 0 rfl) ?_
  refine gf_6_5 X hW ht0 mw_202 dX1_lookAt_1 ?_
  obtain ⟨r2, e1, hf⟩ := bnd_ex hf
  refine k_i X hW (k_V (As := []) (rest := []) X hW hml hl.1 (c_X4_ticksOfRound l g hDW t0 (Nat.lt_of_lt_of_le ht0 (by decide))  mm _ e1) (r_recv X hW 11 t0 (by decide) (Nat.lt_of_lt_of_le ht0 (by decide)) rfl rfl) ⟨mw_440, kw_X4_ticksOfRound⟩ ⟨⟨rfl, rfl⟩, ko_X4_ticksOfRound, ⟨Nat.le_of_ble_eq_true rfl, Nat.le_of_ble_eq_true rfl⟩⟩ rfl rfl (Nat.le_of_ble_eq_true rfl) dX1_lookAt_4 ⟨Nat.le_of_ble_eq_true rfl, Nat.le_of_ble_eq_true rfl⟩) (fun H locs hW => ?_)
  refine lv_istore_n (lv' := [(3, .int r2), (0, .ref (ad g 6 t0)), (1, .int x1), (2, .int x2)]) hx hb dX1_lookAt_7 rfl hl (by decide) rfl (fun ls hl => ?_)
  refine lv_aload_n hx hb dX1_lookAt_8 rfl (lv_at hl 1 rfl) ?_
  refine gf_6_0 X hW ht0 mw_193 dX1_lookAt_9 ?_
  refine gf_0_3 X hW (Nat.lt_of_lt_of_le ht0 (by decide)) mw_122 dX1_lookAt_12 ?_
  refine lv_iload_n hx hb dX1_lookAt_15 rfl (lv_at hl 2 rfl) ?_
  obtain ⟨b4, hf⟩ := chk_ex hf
  refine r_iald X hW 4 t0 (by decide) (Nat.lt_of_lt_of_le ht0 (by decide)) rfl b4 dX1_lookAt_16 ?_
  obtain ⟨v5, ex, hf⟩ := wth_ex hf
  refine lv_nm ex ?_
  clear ex
  refine lv_istore (lv' := [(4, .int v5), (3, .int r2), (0, .ref (ad g 6 t0)), (1, .int x1), (2, .int x2)]) hx hb dX1_lookAt_17 hl (by decide) rfl (fun ls hl => ?_)
  refine lv_iconst (v := 0) hx hb dX1_lookAt_19 (by decide) ?_
  refine lv_istore (lv' := [(5, .int 0), (4, .int v5), (3, .int r2), (0, .ref (ad g 6 t0)), (1, .int x1), (2, .int x2)]) hx hb dX1_lookAt_20 hl (by decide) rfl (fun ls hl => ?_)
  refine lv_iconst (v := 0) hx hb dX1_lookAt_22 (by decide) ?_
  refine lv_istore (lv' := [(6, .int 0), (5, .int 0), (4, .int v5), (3, .int r2), (0, .ref (ad g 6 t0)), (1, .int x1), (2, .int x2)]) hx hb dX1_lookAt_23 hl (by decide) rfl (fun ls hl => ?_)
  refine lv_iconst (v := 0) hx hb dX1_lookAt_25 (by decide) ?_
  refine lv_istore (lv' := [(7, .int 0), (6, .int 0), (5, .int 0), (4, .int v5), (3, .int r2), (0, .ref (ad g 6 t0)), (1, .int x1), (2, .int x2)]) hx hb dX1_lookAt_26 hl (by decide) rfl (fun ls hl => ?_)
  refine lv_iconst (v := 0) hx hb dX1_lookAt_28 (by decide) ?_
  refine lv_istore (lv' := [(8, .int 0), (7, .int 0), (6, .int 0), (5, .int 0), (4, .int v5), (3, .int r2), (0, .ref (ad g 6 t0)), (1, .int x1), (2, .int x2)]) hx hb dX1_lookAt_29 hl (by decide) rfl (fun ls hl => ?_)
  exact P_31 _ _ _ _ _ _ _ _ _ _ _ _ _ hW (lv_sub hl [6, 7, 8, 5, 4, 3, 2, 1, 0] rfl) hf
set_option maxRecDepth 100000 in
set_option maxHeartbeats 4000000 in
theorem c_X1_look (l : Launch) (g : gG) (hDW : DW g) (t0 : Nat) (ht0 : t0 < 2) (x1 : Int32) (mm : gM) (mZ : gM) (hf : fX1_look t0 x1 mm = some mZ) : Met l yX1_look (Cond.code yX1_look cX1_look 3 none :: ALLW) rm_X1_look (CPre g mm [.ref (ad g 6 t0), .int x1]) (CV g mZ) 0 0 (gA g) := by
  refine Met.ofW (cc := cX1_look) (maxL := 3) (ret := none) (by decide) rfl ?_
  intro p e s m args below meth c s₁ B hml hv
  obtain ⟨ha, hFx, hP0, hlo⟩ := hv
  have X : Cx g p s m args c meth RX1 cX1_look := Cx_of hDW hFx hlo B
  have hx := X.1
  have hb := X.2.1
  have hr := B.returns
  have hlocks := X.2.2.2.2.2.2.2
  have hW : Wd g mm s s.heap [] := ⟨hP0, va_S.rf⟩
  rw [ha, lg_entry_eq]
  have hl := lv_entry ([.ref (ad g 6 t0), .int x1] : List Value) (n := 3) (Nat.le_of_ble_eq_true rfl)
  generalize (lg_sl ([.ref (ad g 6 t0), .int x1] : List Value) ++ List.replicate (3 - (lg_sl ([.ref (ad g 6 t0), .int x1] : List Value)).length) Slot.unset).toArray = ls at hl ⊢
  have hl : lv_has ls 3 [(0, .ref (ad g 6 t0)), (1, .int x1)] := hl
  rw [← ha]
  show W p l e rm_X1_look s m args below meth c s.heap [] 0 0 (MQ below (CV g mZ) args s 0 0 (gA g)) (F0 m 0 ls [])
  have P_47 : ∀ (x1 : Int32) (mm : gM) (H : Heap) (locs : List Loc) (ls : Array Slot), Wd g mm s H locs → lv_has ls 3 [(0, .ref (ad g 6 t0)), (1, .int x1)] → jX1_look_47 t0 x1 mm = some mZ → W p l e rm_X1_look s m args below meth c H locs 0 0 (MQ below (CV g mZ) args s 0 0 (gA g)) (F0 m 47 ls []) := by
    intro x1 mm H locs ls hW hl hf
    unfold jX1_look_47 at hf
    refine lv_aload_n hx hb dX1_look_47 rfl (lv_at hl 0 rfl) ?_
    refine gf_6_4 X hW ht0 mw_201 dX1_look_48 ?_
    refine lv_iload_n hx hb dX1_look_51 rfl (lv_at hl 1 rfl) ?_
    refine lv_iconst (v := 1) hx hb dX1_look_52 (by decide) ?_
    obtain ⟨b10, hf⟩ := chk_ex hf
    obtain ⟨m11, ex, hf⟩ := wth_ex hf
    refine r_zast X hW 10 t0 (by decide) ht0 (fun _ => rfl) b10 dX1_look_53 (fun H locs hW => ?_)
    replace hW := hW.same ex
    clear ex
    replace hW := hW.same (someinj hf).symm
    exact e_v X hr hW dX1_look_54
  have P_24 : ∀ (n24 : Nat) (x1 : Int32) (x2 : Int32) (mm : gM) (H : Heap) (locs : List Loc) (ls : Array Slot), Wd g mm s H locs → lv_has ls 3 [(0, .ref (ad g 6 t0)), (1, .int x1), (2, .int x2)] → lX1_look_24 t0 n24 x1 x2 mm = some mZ → W p l e rm_X1_look s m args below meth c H locs 0 0 (MQ below (CV g mZ) args s 0 0 (gA g)) (F0 m 24 ls []) := by
    intro n24
    induction n24 with
    | zero => intro x1 x2 mm H locs ls hW hl hf; exact (no_some hf).elim
    | succ n24 ih_24 =>
      intro x1 x2 mm H locs ls hW hl hf
      rw [lX1_look_24_s] at hf
      refine lv_iload_n hx hb dX1_look_24 rfl (lv_at hl 2 rfl) ?_
      refine lv_bipush (v := 8) hx hb dX1_look_25 (by decide) ?_
      refine lv_icmp_ge (tgt := 47) hx hb dX1_look_27 (by decide) (fun c9 => ?_) (fun c9 => ?_)
      · replace hf := ite_t hf c9
        exact P_47 _ _ _ _ _ hW (lv_sub hl [0, 1] rfl) hf
      · replace hf := ite_f hf c9
        refine lv_aload_n hx hb dX1_look_30 rfl (lv_at hl 0 rfl) ?_
        refine lv_iload_n hx hb dX1_look_31 rfl (lv_at hl 1 rfl) ?_
        refine lv_bipush (v := 8) hx hb dX1_look_32 (by decide) ?_
        refine lv_imul hx hb dX1_look_34 ?_
        refine lv_iload_n hx hb dX1_look_35 rfl (lv_at hl 2 rfl) ?_
        refine lv_iadd hx hb dX1_look_36 ?_
        refine lv_iload_n hx hb dX1_look_37 rfl (lv_at hl 2 rfl) ?_
        obtain ⟨m8, e6, hf⟩ := bnd_ex hf
        refine k_v X hW (k_V (As := [.int ((x1 * 8) + x2), .int x2]) (rest := []) X hW hml hl.1 (c_X1_lookAt l g hDW t0 ht0 _ _ mm _ e6) (r_recv X hW 6 t0 (by decide) ht0 rfl rfl) ⟨mw_436, kw_X1_lookAt⟩ ⟨⟨rfl, rfl⟩, ko_X1_lookAt, ⟨Nat.le_of_ble_eq_true rfl, Nat.le_of_ble_eq_true rfl⟩⟩ rfl rfl (Nat.le_of_ble_eq_true rfl) dX1_look_38 ⟨Nat.le_of_ble_eq_true rfl, Nat.le_of_ble_eq_true rfl⟩) (fun H locs hW => ?_)
        refine lv_iinc (v := x2 + 1) (lv' := [(2, .int (x2 + 1)), (0, .ref (ad g 6 t0)), (1, .int x1)]) hx hb dX1_look_41 hl (k := 2) rfl rfl (by decide) rfl (fun ls hl => ?_)
        refine lv_goto (tgt := 24) hx hb dX1_look_44 (by decide) ?_
        exact ih_24 _ _ _ _ _ _ hW (lv_sub hl [1, 2, 0] rfl) hf
  unfold fX1_look at hf
  refine lv_aload_n hx hb dX1_look_0 rfl (lv_at hl 0 rfl) ?_
  refine gf_6_4 X hW ht0 mw_201 dX1_look_1 ?_
  refine lv_iload_n hx hb dX1_look_4 rfl (lv_at hl 1 rfl) ?_
  obtain ⟨b1, hf⟩ := chk_ex hf
  refine r_zald X hW 10 t0 (by decide) ht0 rfl b1 dX1_look_5 ?_
  refine lv_if_eq (tgt := 10) hx hb dX1_look_6 (by decide) (fun c5 => ?_) (fun c5 => ?_)
  · replace hf := ite_t hf c5
    refine lv_aload_n hx hb dX1_look_10 rfl (lv_at hl 0 rfl) ?_
    refine gf_6_5 X hW ht0 mw_202 dX1_look_11 ?_
    refine lv_aload_n hx hb dX1_look_14 rfl (lv_at hl 0 rfl) ?_
    refine gf_6_0 X hW ht0 mw_193 dX1_look_15 ?_
    refine lv_iload_n hx hb dX1_look_18 rfl (lv_at hl 1 rfl) ?_
    obtain ⟨m4, e2, hf⟩ := bnd_ex hf
    refine k_v X hW (k_V (As := [.ref (ad g 0 t0), .int x1]) (rest := []) X hW hml hl.1 (c_X4_take l g hDW t0 (Nat.lt_of_lt_of_le ht0 (by decide)) t0 (Nat.lt_of_lt_of_le ht0 (by decide)) _ mm _ e2) (r_recv X hW 11 t0 (by decide) (Nat.lt_of_lt_of_le ht0 (by decide)) rfl rfl) ⟨mw_393, kw_X4_take⟩ ⟨⟨rfl, rfl⟩, ko_X4_take, ⟨Nat.le_of_ble_eq_true rfl, Nat.le_of_ble_eq_true rfl⟩⟩ rfl rfl (Nat.le_of_ble_eq_true rfl) dX1_look_19 ⟨Nat.le_of_ble_eq_true rfl, Nat.le_of_ble_eq_true rfl⟩) (fun H locs hW => ?_)
    refine lv_iconst (v := 0) hx hb dX1_look_22 (by decide) ?_
    refine lv_istore_n (lv' := [(2, .int 0), (0, .ref (ad g 6 t0)), (1, .int x1)]) hx hb dX1_look_23 rfl hl (by decide) rfl (fun ls hl => ?_)
    exact P_24 _ _ _ _ _ _ _ hW (lv_sub hl [1, 2, 0] rfl) hf
  · replace hf := ite_f hf c5
    replace hW := hW.same (someinj hf).symm
    exact e_v X hr hW dX1_look_9
set_option maxRecDepth 100000 in
set_option maxHeartbeats 4000000 in
theorem c_X1_seen (l : Launch) (g : gG) (hDW : DW g) (t0 : Nat) (ht0 : t0 < 2) (x1 : Int32) (mm : gM) (r0 : Int32) (hf : fX1_seen t0 x1 mm = some r0) : Met l yX1_seen (Cond.code yX1_seen cX1_seen 4 (some .int) :: ALLW) rm_X1_seen (CPre g mm [.ref (ad g 6 t0), .int x1]) (CI g mm r0) 0 0 (gA g) := by
  refine Met.ofW (cc := cX1_seen) (maxL := 4) (ret := (some .int)) (by decide) rfl ?_
  intro p e s m args below meth c s₁ B hml hv
  obtain ⟨ha, hFx, hP0, hlo⟩ := hv
  have X : Cx g p s m args c meth RX1 cX1_seen := Cx_of hDW hFx hlo B
  have hx := X.1
  have hb := X.2.1
  have hr := B.returns
  have hlocks := X.2.2.2.2.2.2.2
  have hW : Wd g mm s s.heap [] := ⟨hP0, va_S.rf⟩
  rw [ha, lg_entry_eq]
  have hl := lv_entry ([.ref (ad g 6 t0), .int x1] : List Value) (n := 4) (Nat.le_of_ble_eq_true rfl)
  generalize (lg_sl ([.ref (ad g 6 t0), .int x1] : List Value) ++ List.replicate (4 - (lg_sl ([.ref (ad g 6 t0), .int x1] : List Value)).length) Slot.unset).toArray = ls at hl ⊢
  have hl : lv_has ls 4 [(0, .ref (ad g 6 t0)), (1, .int x1)] := hl
  rw [← ha]
  show W p l e rm_X1_seen s m args below meth c s.heap [] 0 0 (MQ below (CI g mm r0) args s 0 0 (gA g)) (F0 m 0 ls [])
  have P_4 : ∀ (n4 : Nat) (x1 : Int32) (x2 : Int32) (x3 : Int32) (H : Heap) (locs : List Loc) (ls : Array Slot), Wd g mm s H locs → lv_has ls 4 [(0, .ref (ad g 6 t0)), (1, .int x1), (2, .int x2), (3, .int x3)] → lX1_seen_4 t0 mm n4 x1 x2 x3 = some r0 → W p l e rm_X1_seen s m args below meth c H locs 0 0 (MQ below (CI g mm r0) args s 0 0 (gA g)) (F0 m 4 ls []) := by
    intro n4
    induction n4 with
    | zero => intro x1 x2 x3 H locs ls hW hl hf; exact (no_some hf).elim
    | succ n4 ih_4 =>
      have P_39 : ∀ (x1 : Int32) (x2 : Int32) (x3 : Int32) (H : Heap) (locs : List Loc) (ls : Array Slot), Wd g mm s H locs → lv_has ls 4 [(0, .ref (ad g 6 t0)), (1, .int x1), (2, .int x2), (3, .int x3)] → jX1_seen_39 (lX1_seen_4 t0 mm n4) t0 mm x1 x2 x3 = some r0 → W p l e rm_X1_seen s m args below meth c H locs 0 0 (MQ below (CI g mm r0) args s 0 0 (gA g)) (F0 m 39 ls []) := by
        intro x1 x2 x3 H locs ls hW hl hf
        unfold jX1_seen_39 at hf
        refine lv_iinc (v := x3 + 1) (lv' := [(3, .int (x3 + 1)), (0, .ref (ad g 6 t0)), (1, .int x1), (2, .int x2)]) hx hb dX1_seen_39 hl (k := 3) rfl rfl (by decide) rfl (fun ls hl => ?_)
        refine lv_goto (tgt := 4) hx hb dX1_seen_42 (by decide) ?_
        exact ih_4 _ _ _ _ _ _ hW (lv_sub hl [1, 2, 3, 0] rfl) hf
      intro x1 x2 x3 H locs ls hW hl hf
      rw [lX1_seen_4_s] at hf
      refine lv_iload_n hx hb dX1_seen_4 rfl (lv_at hl 3 rfl) ?_
      refine lv_bipush (v := 8) hx hb dX1_seen_5 (by decide) ?_
      refine lv_icmp_ge (tgt := 45) hx hb dX1_seen_7 (by decide) (fun c5 => ?_) (fun c5 => ?_)
      · replace hf := ite_t hf c5
        refine lv_iload_n hx hb dX1_seen_45 rfl (lv_at hl 2 rfl) ?_
        exact e_i X hr hW (someinj hf) dX1_seen_46
      · replace hf := ite_f hf c5
        refine lv_aload_n hx hb dX1_seen_10 rfl (lv_at hl 0 rfl) ?_
        refine gf_6_1 X hW ht0 mw_195 dX1_seen_11 ?_
        refine lv_iload_n hx hb dX1_seen_14 rfl (lv_at hl 1 rfl) ?_
        refine lv_bipush (v := 8) hx hb dX1_seen_15 (by decide) ?_
        refine lv_imul hx hb dX1_seen_17 ?_
        refine lv_iload_n hx hb dX1_seen_18 rfl (lv_at hl 3 rfl) ?_
        refine lv_iadd hx hb dX1_seen_19 ?_
        obtain ⟨b1, hf⟩ := chk_ex hf
        refine r_iald X hW 7 t0 (by decide) ht0 rfl b1 dX1_seen_20 ?_
        refine lv_aload_n hx hb dX1_seen_21 rfl (lv_at hl 0 rfl) ?_
        refine gf_6_0 X hW ht0 mw_193 dX1_seen_22 ?_
        refine gf_0_4 X hW (Nat.lt_of_lt_of_le ht0 (by decide)) mw_126 dX1_seen_25 ?_
        refine lv_iconst (v := 3) hx hb dX1_seen_28 (by decide) ?_
        obtain ⟨b2, hf⟩ := chk_ex hf
        refine r_iald X hW 5 t0 (by decide) (Nat.lt_of_lt_of_le ht0 (by decide)) rfl b2 dX1_seen_29 ?_
        refine lv_icmp_lt (tgt := 39) hx hb dX1_seen_30 (by decide) (fun c4 => ?_) (fun c4 => ?_)
        · replace hf := ite_t hf c4
          exact P_39 _ _ _ _ _ _ hW (lv_sub hl [0, 1, 2, 3] rfl) hf
        · replace hf := ite_f hf c4
          refine lv_iload_n hx hb dX1_seen_33 rfl (lv_at hl 2 rfl) ?_
          refine lv_iconst (v := 1) hx hb dX1_seen_34 (by decide) ?_
          refine lv_iload_n hx hb dX1_seen_35 rfl (lv_at hl 3 rfl) ?_
          refine lv_ishl hx hb dX1_seen_36 ?_
          refine lv_ior hx hb dX1_seen_37 ?_
          obtain ⟨v3, ex, hf⟩ := wth_ex hf
          refine lv_nm ex ?_
          clear ex
          refine lv_istore_n (lv' := [(2, .int v3), (0, .ref (ad g 6 t0)), (1, .int x1), (3, .int x3)]) hx hb dX1_seen_38 rfl hl (by decide) rfl (fun ls hl => ?_)
          exact P_39 _ _ _ _ _ _ hW (lv_sub hl [1, 2, 0, 3] rfl) hf
  unfold fX1_seen at hf
  refine lv_iconst (v := 0) hx hb dX1_seen_0 (by decide) ?_
  refine lv_istore_n (lv' := [(2, .int 0), (0, .ref (ad g 6 t0)), (1, .int x1)]) hx hb dX1_seen_1 rfl hl (by decide) rfl (fun ls hl => ?_)
  refine lv_iconst (v := 0) hx hb dX1_seen_2 (by decide) ?_
  refine lv_istore_n (lv' := [(3, .int 0), (2, .int 0), (0, .ref (ad g 6 t0)), (1, .int x1)]) hx hb dX1_seen_3 rfl hl (by decide) rfl (fun ls hl => ?_)
  exact P_4 _ _ _ _ _ _ _ hW (lv_sub hl [2, 3, 1, 0] rfl) hf
set_option maxRecDepth 100000 in
set_option maxHeartbeats 4000000 in
theorem c_X1_readAs (l : Launch) (g : gG) (hDW : DW g) (t0 : Nat) (ht0 : t0 < 2) (x1 : Int32) (mm : gM) (r0 : Int32) (hf : fX1_readAs t0 x1 mm = some r0) : Met l yX1_readAs (Cond.code yX1_readAs cX1_readAs 4 (some .int) :: ALLW) rm_X1_readAs (CPre g mm [.ref (ad g 6 t0), .int x1]) (CI g mm r0) 0 0 (gA g) := by
  refine Met.ofW (cc := cX1_readAs) (maxL := 4) (ret := (some .int)) (by decide) rfl ?_
  intro p e s m args below meth c s₁ B hml hv
  obtain ⟨ha, hFx, hP0, hlo⟩ := hv
  have X : Cx g p s m args c meth RX1 cX1_readAs := Cx_of hDW hFx hlo B
  have hx := X.1
  have hb := X.2.1
  have hr := B.returns
  have hlocks := X.2.2.2.2.2.2.2
  have hW : Wd g mm s s.heap [] := ⟨hP0, va_S.rf⟩
  rw [ha, lg_entry_eq]
  have hl := lv_entry ([.ref (ad g 6 t0), .int x1] : List Value) (n := 4) (Nat.le_of_ble_eq_true rfl)
  generalize (lg_sl ([.ref (ad g 6 t0), .int x1] : List Value) ++ List.replicate (4 - (lg_sl ([.ref (ad g 6 t0), .int x1] : List Value)).length) Slot.unset).toArray = ls at hl ⊢
  have hl : lv_has ls 4 [(0, .ref (ad g 6 t0)), (1, .int x1)] := hl
  rw [← ha]
  show W p l e rm_X1_readAs s m args below meth c s.heap [] 0 0 (MQ below (CI g mm r0) args s 0 0 (gA g)) (F0 m 0 ls [])
  have P_11 : ∀ (n11 : Nat) (x2 : Int32) (x3 : Int32) (H : Heap) (locs : List Loc) (ls : Array Slot), Wd g mm s H locs → lv_has ls 4 [(2, .int x2), (3, .int x3)] → lX1_readAs_11 t0 mm n11 x2 x3 = some r0 → W p l e rm_X1_readAs s m args below meth c H locs 0 0 (MQ below (CI g mm r0) args s 0 0 (gA g)) (F0 m 11 ls []) := by
    intro n11
    induction n11 with
    | zero => intro x2 x3 H locs ls hW hl hf; exact (no_some hf).elim
    | succ n11 ih_11 =>
      intro x2 x3 H locs ls hW hl hf
      rw [lX1_readAs_11_s] at hf
      refine lv_iload_n hx hb dX1_readAs_11 rfl (lv_at hl 1 rfl) ?_
      refine lv_bipush (v := 18) hx hb dX1_readAs_12 (by decide) ?_
      refine lv_icmp_ge (tgt := 33) hx hb dX1_readAs_14 (by decide) (fun c8 => ?_) (fun c8 => ?_)
      · replace hf := ite_t hf c8
        refine lv_iconst (v := -1) hx hb dX1_readAs_33 (by decide) ?_
        exact e_i X hr hW (someinj hf) dX1_readAs_34
      · replace hf := ite_f hf c8
        refine lv_iload_n hx hb dX1_readAs_17 rfl (lv_at hl 1 rfl) ?_
        obtain ⟨r5, e4, hf⟩ := bnd_ex hf
        refine k_i X hW (k_N (As := [.int x3]) (rest := []) X hW hml hl.1 (c_X5_maskOf l g hDW  _ mm _ e4) (X.2.2.2.2.2.2.1.2.2.1.2.2.2.2.2.2.2.2.2.1) kw_X5_maskOf ⟨⟨rfl, rfl⟩, ko_X5_maskOf, ⟨Nat.le_of_ble_eq_true rfl, Nat.le_of_ble_eq_true rfl⟩⟩ rfl rfl (Nat.le_of_ble_eq_true rfl) dX1_readAs_18 ⟨Nat.le_of_ble_eq_true rfl, Nat.le_of_ble_eq_true rfl⟩) (fun H locs hW => ?_)
        refine lv_iload_n hx hb dX1_readAs_21 rfl (lv_at hl 0 rfl) ?_
        refine lv_icmp_ne (tgt := 27) hx hb dX1_readAs_22 (by decide) (fun c7 => ?_) (fun c7 => ?_)
        · replace hf := ite_f hf c7
          refine lv_iinc (v := x3 + 1) (lv' := [(3, .int (x3 + 1)), (2, .int x2)]) hx hb dX1_readAs_27 hl (k := 1) rfl rfl (by decide) rfl (fun ls hl => ?_)
          refine lv_goto (tgt := 11) hx hb dX1_readAs_30 (by decide) ?_
          exact ih_11 _ _ _ _ _ hW (lv_sub hl [1, 0] rfl) hf
        · replace hf := ite_t hf c7
          refine lv_iload_n hx hb dX1_readAs_25 rfl (lv_at hl 1 rfl) ?_
          exact e_i X hr hW (someinj hf) dX1_readAs_26
  unfold fX1_readAs at hf
  refine lv_aload_n hx hb dX1_readAs_0 rfl (lv_at hl 0 rfl) ?_
  refine lv_iload_n hx hb dX1_readAs_1 rfl (lv_at hl 1 rfl) ?_
  obtain ⟨r2, e1, hf⟩ := bnd_ex hf
  refine k_i X hW (k_V (As := [.int x1]) (rest := []) X hW hml hl.1 (c_X1_seen l g hDW t0 ht0 _ mm _ e1) (r_recv X hW 6 t0 (by decide) ht0 rfl rfl) ⟨mw_457, kw_X1_seen⟩ ⟨⟨rfl, rfl⟩, ko_X1_seen, ⟨Nat.le_of_ble_eq_true rfl, Nat.le_of_ble_eq_true rfl⟩⟩ rfl rfl (Nat.le_of_ble_eq_true rfl) dX1_readAs_2 ⟨Nat.le_of_ble_eq_true rfl, Nat.le_of_ble_eq_true rfl⟩) (fun H locs hW => ?_)
  refine lv_bipush (v := 127) hx hb dX1_readAs_5 (by decide) ?_
  refine lv_iand hx hb dX1_readAs_7 ?_
  refine lv_istore_n (lv' := [(2, .int (r2 &&& 127)), (0, .ref (ad g 6 t0)), (1, .int x1)]) hx hb dX1_readAs_8 rfl hl (by decide) rfl (fun ls hl => ?_)
  refine lv_iconst (v := 0) hx hb dX1_readAs_9 (by decide) ?_
  refine lv_istore_n (lv' := [(3, .int 0), (2, .int (r2 &&& 127)), (0, .ref (ad g 6 t0)), (1, .int x1)]) hx hb dX1_readAs_10 rfl hl (by decide) rfl (fun ls hl => ?_)
  exact P_11 _ _ _ _ _ _ hW (lv_sub hl [1, 0] rfl) hf
set_option maxRecDepth 100000 in
set_option maxHeartbeats 4000000 in
theorem c_X1_mean (l : Launch) (g : gG) (hDW : DW g) (t0 : Nat) (ht0 : t0 < 2) (x1 : Int32) (mm : gM) (r0 : Int32) (hf : fX1_mean t0 x1 mm = some r0) : Met l yX1_mean (Cond.code yX1_mean cX1_mean 6 (some .int) :: ALLW) rm_X1_mean (CPre g mm [.ref (ad g 6 t0), .int x1]) (CI g mm r0) 0 0 (gA g) := by
  refine Met.ofW (cc := cX1_mean) (maxL := 6) (ret := (some .int)) (by decide) rfl ?_
  intro p e s m args below meth c s₁ B hml hv
  obtain ⟨ha, hFx, hP0, hlo⟩ := hv
  have X : Cx g p s m args c meth RX1 cX1_mean := Cx_of hDW hFx hlo B
  have hx := X.1
  have hb := X.2.1
  have hr := B.returns
  have hlocks := X.2.2.2.2.2.2.2
  have hW : Wd g mm s s.heap [] := ⟨hP0, va_S.rf⟩
  rw [ha, lg_entry_eq]
  have hl := lv_entry ([.ref (ad g 6 t0), .int x1] : List Value) (n := 6) (Nat.le_of_ble_eq_true rfl)
  generalize (lg_sl ([.ref (ad g 6 t0), .int x1] : List Value) ++ List.replicate (6 - (lg_sl ([.ref (ad g 6 t0), .int x1] : List Value)).length) Slot.unset).toArray = ls at hl ⊢
  have hl : lv_has ls 6 [(0, .ref (ad g 6 t0)), (1, .int x1)] := hl
  rw [← ha]
  show W p l e rm_X1_mean s m args below meth c s.heap [] 0 0 (MQ below (CI g mm r0) args s 0 0 (gA g)) (F0 m 0 ls [])
  have P_60 : ∀ (x3 : Int32) (x4 : Int32) (H : Heap) (locs : List Loc) (ls : Array Slot), Wd g mm s H locs → lv_has ls 6 [(3, .int x3), (4, .int x4)] → jX1_mean_60 t0 mm x3 x4 = some r0 → W p l e rm_X1_mean s m args below meth c H locs 0 0 (MQ below (CI g mm r0) args s 0 0 (gA g)) (F0 m 60 ls []) := by
    intro x3 x4 H locs ls hW hl hf
    unfold jX1_mean_60 at hf
    refine lv_iload_n hx hb dX1_mean_60 rfl (lv_at hl 0 rfl) ?_
    refine lv_if_le (tgt := 71) hx hb dX1_mean_61 (by decide) (fun c15 => ?_) (fun c15 => ?_)
    · replace hf := ite_t hf c15
      refine lv_iconst (v := 0) hx hb dX1_mean_71 (by decide) ?_
      exact e_i X hr hW (someinj hf) dX1_mean_72
    · replace hf := ite_f hf c15
      refine lv_iload hx hb dX1_mean_64 (lv_at hl 1 rfl) ?_
      refine lv_iload_n hx hb dX1_mean_66 rfl (lv_at hl 0 rfl) ?_
      obtain ⟨b14, hf⟩ := chk_ex hf
      refine lv_idiv hx hb dX1_mean_67 b14 ?_
      refine lv_goto (tgt := 72) hx hb dX1_mean_68 (by decide) ?_
      exact e_i X hr hW (someinj hf) dX1_mean_72
  have P_20 : ∀ (n20 : Nat) (x1 : Int32) (x2 : Int32) (x3 : Int32) (x4 : Int32) (x5 : Int32) (H : Heap) (locs : List Loc) (ls : Array Slot), Wd g mm s H locs → lv_has ls 6 [(0, .ref (ad g 6 t0)), (1, .int x1), (2, .int x2), (3, .int x3), (4, .int x4), (5, .int x5)] → lX1_mean_20 t0 mm n20 x1 x2 x3 x4 x5 = some r0 → W p l e rm_X1_mean s m args below meth c H locs 0 0 (MQ below (CI g mm r0) args s 0 0 (gA g)) (F0 m 20 ls []) := by
    intro n20
    induction n20 with
    | zero => intro x1 x2 x3 x4 x5 H locs ls hW hl hf; exact (no_some hf).elim
    | succ n20 ih_20 =>
      have P_54 : ∀ (x1 : Int32) (x2 : Int32) (x3 : Int32) (x4 : Int32) (x5 : Int32) (H : Heap) (locs : List Loc) (ls : Array Slot), Wd g mm s H locs → lv_has ls 6 [(0, .ref (ad g 6 t0)), (1, .int x1), (2, .int x2), (3, .int x3), (4, .int x4), (5, .int x5)] → jX1_mean_54 (lX1_mean_20 t0 mm n20) t0 mm x1 x2 x3 x4 x5 = some r0 → W p l e rm_X1_mean s m args below meth c H locs 0 0 (MQ below (CI g mm r0) args s 0 0 (gA g)) (F0 m 54 ls []) := by
        intro x1 x2 x3 x4 x5 H locs ls hW hl hf
        unfold jX1_mean_54 at hf
        refine lv_iinc (v := x5 + 1) (lv' := [(5, .int (x5 + 1)), (0, .ref (ad g 6 t0)), (1, .int x1), (2, .int x2), (3, .int x3), (4, .int x4)]) hx hb dX1_mean_54 hl (k := 5) rfl rfl (by decide) rfl (fun ls hl => ?_)
        refine lv_goto (tgt := 20) hx hb dX1_mean_57 (by decide) ?_
        exact ih_20 _ _ _ _ _ _ _ _ hW (lv_sub hl [1, 2, 3, 4, 5, 0] rfl) hf
      intro x1 x2 x3 x4 x5 H locs ls hW hl hf
      rw [lX1_mean_20_s] at hf
      refine lv_iload hx hb dX1_mean_20 (lv_at hl 5 rfl) ?_
      refine lv_bipush (v := 8) hx hb dX1_mean_22 (by decide) ?_
      refine lv_icmp_ge (tgt := 60) hx hb dX1_mean_24 (by decide) (fun c13 => ?_) (fun c13 => ?_)
      · replace hf := ite_t hf c13
        exact P_60 _ _ _ _ _ hW (lv_sub hl [3, 4] rfl) hf
      · replace hf := ite_f hf c13
        refine lv_iload_n hx hb dX1_mean_27 rfl (lv_at hl 2 rfl) ?_
        refine lv_iload hx hb dX1_mean_28 (lv_at hl 5 rfl) ?_
        obtain ⟨r8, e7, hf⟩ := bnd_ex hf
        refine k_i X hW (k_N (As := [.int x2, .int x5]) (rest := []) X hW hml hl.1 (c_X5_bit l g hDW  _ _ mm _ e7) (X.2.2.2.2.2.2.1.2.2.1.2.2.2.2.2.2.2.2.2.2) kw_X5_bit ⟨⟨rfl, rfl⟩, ko_X5_bit, ⟨Nat.le_of_ble_eq_true rfl, Nat.le_of_ble_eq_true rfl⟩⟩ rfl rfl (Nat.le_of_ble_eq_true rfl) dX1_mean_30 ⟨Nat.le_of_ble_eq_true rfl, Nat.le_of_ble_eq_true rfl⟩) (fun H locs hW => ?_)
        refine lv_iconst (v := 1) hx hb dX1_mean_33 (by decide) ?_
        refine lv_icmp_ne (tgt := 54) hx hb dX1_mean_34 (by decide) (fun c12 => ?_) (fun c12 => ?_)
        · replace hf := ite_f hf c12
          exact P_54 _ _ _ _ _ _ _ _ hW (lv_sub hl [0, 1, 2, 3, 4, 5] rfl) hf
        · replace hf := ite_t hf c12
          refine lv_iload hx hb dX1_mean_37 (lv_at hl 4 rfl) ?_
          refine lv_aload_n hx hb dX1_mean_39 rfl (lv_at hl 0 rfl) ?_
          refine gf_6_1 X hW ht0 mw_195 dX1_mean_40 ?_
          refine lv_iload_n hx hb dX1_mean_43 rfl (lv_at hl 1 rfl) ?_
          refine lv_bipush (v := 8) hx hb dX1_mean_44 (by decide) ?_
          refine lv_imul hx hb dX1_mean_46 ?_
          refine lv_iload hx hb dX1_mean_47 (lv_at hl 5 rfl) ?_
          refine lv_iadd hx hb dX1_mean_49 ?_
          obtain ⟨b10, hf⟩ := chk_ex hf
          refine r_iald X hW 7 t0 (by decide) ht0 rfl b10 dX1_mean_50 ?_
          refine lv_iadd hx hb dX1_mean_51 ?_
          obtain ⟨v11, ex, hf⟩ := wth_ex hf
          refine lv_nm ex ?_
          clear ex
          refine lv_istore (lv' := [(4, .int v11), (0, .ref (ad g 6 t0)), (1, .int x1), (2, .int x2), (3, .int x3), (5, .int x5)]) hx hb dX1_mean_52 hl (by decide) rfl (fun ls hl => ?_)
          exact P_54 _ _ _ _ _ _ _ _ hW (lv_sub hl [1, 2, 3, 4, 0, 5] rfl) hf
  unfold fX1_mean at hf
  refine lv_aload_n hx hb dX1_mean_0 rfl (lv_at hl 0 rfl) ?_
  refine gf_6_0 X hW ht0 mw_193 dX1_mean_1 ?_
  refine lv_iload_n hx hb dX1_mean_4 rfl (lv_at hl 1 rfl) ?_
  obtain ⟨r2, e1, hf⟩ := bnd_ex hf
  refine k_i X hW (k_V (As := [.int x1]) (rest := []) X hW hml hl.1 (c_X2_works l g hDW t0 (Nat.lt_of_lt_of_le ht0 (by decide)) _ mm _ e1) (r_recv X hW 0 t0 (by decide) (Nat.lt_of_lt_of_le ht0 (by decide)) rfl rfl) ⟨mw_510, kw_X2_works⟩ ⟨⟨rfl, rfl⟩, ko_X2_works, ⟨Nat.le_of_ble_eq_true rfl, Nat.le_of_ble_eq_true rfl⟩⟩ rfl rfl (Nat.le_of_ble_eq_true rfl) dX1_mean_5 ⟨Nat.le_of_ble_eq_true rfl, Nat.le_of_ble_eq_true rfl⟩) (fun H locs hW => ?_)
  refine lv_istore_n (lv' := [(2, .int r2), (0, .ref (ad g 6 t0)), (1, .int x1)]) hx hb dX1_mean_8 rfl hl (by decide) rfl (fun ls hl => ?_)
  refine lv_iload_n hx hb dX1_mean_9 rfl (lv_at hl 0 rfl) ?_
  obtain ⟨r5, e4, hf⟩ := bnd_ex hf
  refine k_i X hW (k_S (As := [.int r2]) (rest := []) X hW hml hl.1 (c_J6_bitCount_0f7a4 l g hDW  _ mm _ e4) ⟨mw_511, kw_J6_bitCount_0f7a4⟩ ⟨⟨rfl, rfl⟩, ko_J6_bitCount_0f7a4, ⟨Nat.le_of_ble_eq_true rfl, Nat.le_of_ble_eq_true rfl⟩⟩ rfl rfl (Nat.le_of_ble_eq_true rfl) dX1_mean_10 ⟨Nat.le_of_ble_eq_true rfl, Nat.le_of_ble_eq_true rfl⟩) (fun H locs hW => ?_)
  refine lv_istore_n (lv' := [(3, .int r5), (2, .int r2), (0, .ref (ad g 6 t0)), (1, .int x1)]) hx hb dX1_mean_13 rfl hl (by decide) rfl (fun ls hl => ?_)
  refine lv_iconst (v := 0) hx hb dX1_mean_14 (by decide) ?_
  refine lv_istore (lv' := [(4, .int 0), (3, .int r5), (2, .int r2), (0, .ref (ad g 6 t0)), (1, .int x1)]) hx hb dX1_mean_15 hl (by decide) rfl (fun ls hl => ?_)
  refine lv_iconst (v := 0) hx hb dX1_mean_17 (by decide) ?_
  refine lv_istore (lv' := [(5, .int 0), (4, .int 0), (3, .int r5), (2, .int r2), (0, .ref (ad g 6 t0)), (1, .int x1)]) hx hb dX1_mean_18 hl (by decide) rfl (fun ls hl => ?_)
  exact P_20 _ _ _ _ _ _ _ _ _ hW (lv_sub hl [4, 5, 3, 2, 1, 0] rfl) hf
set_option maxRecDepth 100000 in
set_option maxHeartbeats 4000000 in
theorem c_X2_copyFrom (l : Launch) (g : gG) (hDW : DW g) (t0 : Nat) (ht0 : t0 < 10) (t1 : Nat) (ht1 : t1 < 10) (mm : gM) (mZ : gM) (hf : fX2_copyFrom t0 t1 mm = some mZ) : Met l yX2_copyFrom (Cond.code yX2_copyFrom cX2_copyFrom 2 none :: ALLW) rm_X2_copyFrom (CPre g mm [.ref (ad g 0 t0), .ref (ad g 0 t1)]) (CV g mZ) 0 0 (gA g) := by
  refine Met.ofW (cc := cX2_copyFrom) (maxL := 2) (ret := none) (by decide) rfl ?_
  intro p e s m args below meth c s₁ B hml hv
  obtain ⟨ha, hFx, hP0, hlo⟩ := hv
  have X : Cx g p s m args c meth RX2 cX2_copyFrom := Cx_of hDW hFx hlo B
  have hx := X.1
  have hb := X.2.1
  have hr := B.returns
  have hlocks := X.2.2.2.2.2.2.2
  have hW : Wd g mm s s.heap [] := ⟨hP0, va_S.rf⟩
  rw [ha, lg_entry_eq]
  have hl := lv_entry ([.ref (ad g 0 t0), .ref (ad g 0 t1)] : List Value) (n := 2) (Nat.le_of_ble_eq_true rfl)
  generalize (lg_sl ([.ref (ad g 0 t0), .ref (ad g 0 t1)] : List Value) ++ List.replicate (2 - (lg_sl ([.ref (ad g 0 t0), .ref (ad g 0 t1)] : List Value)).length) Slot.unset).toArray = ls at hl ⊢
  have hl : lv_has ls 2 [(0, .ref (ad g 0 t0)), (1, .ref (ad g 0 t1))] := hl
  rw [← ha]
  show W p l e rm_X2_copyFrom s m args below meth c s.heap [] 0 0 (MQ below (CV g mZ) args s 0 0 (gA g)) (F0 m 0 ls [])
  unfold fX2_copyFrom at hf
  refine lv_aload_n hx hb dX2_copyFrom_0 rfl (lv_at hl 1 rfl) ?_
  refine gf_0_0 X hW ht1 mw_112 dX2_copyFrom_1 ?_
  refine lv_iconst (v := 0) hx hb dX2_copyFrom_4 (by decide) ?_
  refine lv_aload_n hx hb dX2_copyFrom_5 rfl (lv_at hl 0 rfl) ?_
  refine gf_0_0 X hW ht0 mw_112 dX2_copyFrom_6 ?_
  refine lv_iconst (v := 0) hx hb dX2_copyFrom_9 (by decide) ?_
  refine lv_bipush (v := 6) hx hb dX2_copyFrom_10 (by decide) ?_
  obtain ⟨m1, ex, hf⟩ := wth_ex hf
  refine r_copy X hW (hml.trans hl.1.symm) 1 t0 1 t1 (by decide) ht0 (by decide) ht1 (fun _ => rfl) rfl mw_616 kw_copy.1 kw_copy.2.1 kw_copy.2.2 (by decide) (by decide) (by decide) (Nat.le_of_ble_eq_true rfl) (Nat.le_of_ble_eq_true (by decide +kernel)) dX2_copyFrom_12 (fun H locs hW => ?_)
  replace hW := hW.same ex
  clear ex
  refine lv_aload_n hx hb dX2_copyFrom_15 rfl (lv_at hl 1 rfl) ?_
  refine gf_0_1 X hW ht1 mw_115 dX2_copyFrom_16 ?_
  refine lv_iconst (v := 0) hx hb dX2_copyFrom_19 (by decide) ?_
  refine lv_aload_n hx hb dX2_copyFrom_20 rfl (lv_at hl 0 rfl) ?_
  refine gf_0_1 X hW ht0 mw_115 dX2_copyFrom_21 ?_
  refine lv_iconst (v := 0) hx hb dX2_copyFrom_24 (by decide) ?_
  refine lv_bipush (v := 6) hx hb dX2_copyFrom_25 (by decide) ?_
  obtain ⟨m2, ex, hf⟩ := wth_ex hf
  refine r_copy X hW (hml.trans hl.1.symm) 2 t0 2 t1 (by decide) ht0 (by decide) ht1 (fun _ => rfl) rfl mw_616 kw_copy.1 kw_copy.2.1 kw_copy.2.2 (by decide) (by decide) (by decide) (Nat.le_of_ble_eq_true rfl) (Nat.le_of_ble_eq_true (by decide +kernel)) dX2_copyFrom_27 (fun H locs hW => ?_)
  replace hW := hW.same ex
  clear ex
  refine lv_aload_n hx hb dX2_copyFrom_30 rfl (lv_at hl 1 rfl) ?_
  refine gf_0_2 X hW ht1 mw_118 dX2_copyFrom_31 ?_
  refine lv_iconst (v := 0) hx hb dX2_copyFrom_34 (by decide) ?_
  refine lv_aload_n hx hb dX2_copyFrom_35 rfl (lv_at hl 0 rfl) ?_
  refine gf_0_2 X hW ht0 mw_118 dX2_copyFrom_36 ?_
  refine lv_iconst (v := 0) hx hb dX2_copyFrom_39 (by decide) ?_
  refine lv_bipush (v := 6) hx hb dX2_copyFrom_40 (by decide) ?_
  obtain ⟨m3, ex, hf⟩ := wth_ex hf
  refine r_copy X hW (hml.trans hl.1.symm) 3 t0 3 t1 (by decide) ht0 (by decide) ht1 (fun _ => rfl) rfl mw_616 kw_copy.1 kw_copy.2.1 kw_copy.2.2 (by decide) (by decide) (by decide) (Nat.le_of_ble_eq_true rfl) (Nat.le_of_ble_eq_true (by decide +kernel)) dX2_copyFrom_42 (fun H locs hW => ?_)
  replace hW := hW.same ex
  clear ex
  refine lv_aload_n hx hb dX2_copyFrom_45 rfl (lv_at hl 1 rfl) ?_
  refine gf_0_3 X hW ht1 mw_121 dX2_copyFrom_46 ?_
  refine lv_iconst (v := 0) hx hb dX2_copyFrom_49 (by decide) ?_
  refine lv_aload_n hx hb dX2_copyFrom_50 rfl (lv_at hl 0 rfl) ?_
  refine gf_0_3 X hW ht0 mw_121 dX2_copyFrom_51 ?_
  refine lv_iconst (v := 0) hx hb dX2_copyFrom_54 (by decide) ?_
  refine lv_bipush (v := 48) hx hb dX2_copyFrom_55 (by decide) ?_
  obtain ⟨m4, ex, hf⟩ := wth_ex hf
  refine r_copy X hW (hml.trans hl.1.symm) 4 t0 4 t1 (by decide) ht0 (by decide) ht1 (fun _ => rfl) rfl mw_616 kw_copy.1 kw_copy.2.1 kw_copy.2.2 (by decide) (by decide) (by decide) (Nat.le_of_ble_eq_true rfl) (Nat.le_of_ble_eq_true (by decide +kernel)) dX2_copyFrom_57 (fun H locs hW => ?_)
  replace hW := hW.same ex
  clear ex
  refine lv_aload_n hx hb dX2_copyFrom_60 rfl (lv_at hl 1 rfl) ?_
  refine gf_0_4 X hW ht1 mw_124 dX2_copyFrom_61 ?_
  refine lv_iconst (v := 0) hx hb dX2_copyFrom_64 (by decide) ?_
  refine lv_aload_n hx hb dX2_copyFrom_65 rfl (lv_at hl 0 rfl) ?_
  refine gf_0_4 X hW ht0 mw_124 dX2_copyFrom_66 ?_
  refine lv_iconst (v := 0) hx hb dX2_copyFrom_69 (by decide) ?_
  refine lv_iconst (v := 4) hx hb dX2_copyFrom_70 (by decide) ?_
  obtain ⟨m5, ex, hf⟩ := wth_ex hf
  refine r_copy X hW (hml.trans hl.1.symm) 5 t0 5 t1 (by decide) ht0 (by decide) ht1 (fun _ => rfl) rfl mw_616 kw_copy.1 kw_copy.2.1 kw_copy.2.2 (by decide) (by decide) (by decide) (Nat.le_of_ble_eq_true rfl) (Nat.le_of_ble_eq_true (by decide +kernel)) dX2_copyFrom_71 (fun H locs hW => ?_)
  replace hW := hW.same ex
  clear ex
  refine lv_aload_n hx hb dX2_copyFrom_74 rfl (lv_at hl 0 rfl) ?_
  refine lv_aload_n hx hb dX2_copyFrom_75 rfl (lv_at hl 1 rfl) ?_
  refine gf_0_5 X hW ht1 mw_128 dX2_copyFrom_76 ?_
  obtain ⟨m6, ex, hf⟩ := wth_ex hf
  refine pf_0_5 X hW ht0 mw_128 dX2_copyFrom_79 (fun H locs hW => ?_)
  replace hW := hW.same ex
  clear ex
  refine lv_aload_n hx hb dX2_copyFrom_82 rfl (lv_at hl 0 rfl) ?_
  refine lv_aload_n hx hb dX2_copyFrom_83 rfl (lv_at hl 1 rfl) ?_
  refine gf_0_6 X hW ht1 mw_131 dX2_copyFrom_84 ?_
  obtain ⟨m7, ex, hf⟩ := wth_ex hf
  refine pf_0_6 X hW ht0 mw_131 dX2_copyFrom_87 (fun H locs hW => ?_)
  replace hW := hW.same ex
  clear ex
  refine lv_aload_n hx hb dX2_copyFrom_90 rfl (lv_at hl 0 rfl) ?_
  refine lv_aload_n hx hb dX2_copyFrom_91 rfl (lv_at hl 1 rfl) ?_
  refine gf_0_7 X hW ht1 mw_133 dX2_copyFrom_92 ?_
  obtain ⟨m8, ex, hf⟩ := wth_ex hf
  refine pf_0_7 X hW ht0 mw_133 dX2_copyFrom_95 (fun H locs hW => ?_)
  replace hW := hW.same ex
  clear ex
  refine lv_aload_n hx hb dX2_copyFrom_98 rfl (lv_at hl 0 rfl) ?_
  refine lv_aload_n hx hb dX2_copyFrom_99 rfl (lv_at hl 1 rfl) ?_
  refine gf_0_8 X hW ht1 mw_135 dX2_copyFrom_100 ?_
  obtain ⟨m9, ex, hf⟩ := wth_ex hf
  refine pf_0_8 X hW ht0 mw_135 dX2_copyFrom_103 (fun H locs hW => ?_)
  replace hW := hW.same ex
  clear ex
  refine lv_aload_n hx hb dX2_copyFrom_106 rfl (lv_at hl 0 rfl) ?_
  refine lv_aload_n hx hb dX2_copyFrom_107 rfl (lv_at hl 1 rfl) ?_
  refine gf_0_9 X hW ht1 mw_137 dX2_copyFrom_108 ?_
  obtain ⟨m10, ex, hf⟩ := wth_ex hf
  refine pf_0_9 X hW ht0 mw_137 dX2_copyFrom_111 (fun H locs hW => ?_)
  replace hW := hW.same ex
  clear ex
  replace hW := hW.same (someinj hf).symm
  exact e_v X hr hW dX2_copyFrom_114
