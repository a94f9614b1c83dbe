set_option maxRecDepth 100000 in
set_option maxHeartbeats 4000000 in
theorem c_X6_safest (l : Launch) (g : gG) (hDW : DW g) (x1 : Int32) (mm : gM) (r0 : Int32) (mZ : gM) (hf : fX6_safest x1 mm = some (r0, mZ)) : Met l yX6_safest (Cond.code yX6_safest cX6_safest 2 (some .int) :: ALLW) rm_X6_safest (CPre g mm [.ref (ad g 21 0), .int x1]) (CI g mZ r0) 0 0 (gA g) := by
  refine Met.ofW (cc := cX6_safest) (maxL := 2) (ret := (some .int)) (by decide) rfl ?_
  intro p e s m args below meth c s₁ B hml hv
  obtain ⟨ha, hFx, hP0, hlo⟩ := hv
  have X : Cx g p s m args c meth RX6 cX6_safest := Cx_of hDW hFx hlo B
  have hx := X.1
  have hb := X.2.1
  have hr := B.returns
  have hlocks := X.2.2.2.2.2.2.2
  have hW : Wd g mm s s.heap [] := ⟨hP0, va_S.rf⟩
  rw [ha, lg_entry_eq]
  have hl := lv_entry ([.ref (ad g 21 0), .int x1] : List Value) (n := 2) (Nat.le_of_ble_eq_true rfl)
  generalize (lg_sl ([.ref (ad g 21 0), .int x1] : List Value) ++ List.replicate (2 - (lg_sl ([.ref (ad g 21 0), .int x1] : List Value)).length) Slot.unset).toArray = ls at hl ⊢
  have hl : lv_has ls 2 [(0, .ref (ad g 21 0)), (1, .int x1)] := hl
  rw [← ha]
  show W p l e rm_X6_safest s m args below meth c s.heap [] 0 0 (MQ below (CI g mZ r0) args s 0 0 (gA g)) (F0 m 0 ls [])
  unfold fX6_safest at hf
  refine lv_aload_n hx hb dX6_safest_0 rfl (lv_at hl 0 rfl) ?_
  refine lv_iconst (v := 0) hx hb dX6_safest_1 (by decide) ?_
  obtain ⟨m1, ex, hf⟩ := wth_ex hf
  refine pf_21_0 X hW (by decide) mw_947 dX6_safest_2 (fun H locs hW => ?_)
  replace hW := hW.same ex
  clear ex
  refine lv_iload_n hx hb dX6_safest_5 rfl (lv_at hl 1 rfl) ?_
  obtain ⟨r3, e2, hf⟩ := bnd_ex hf
  refine k_i X hW (k_S (As := [.int x1]) (rest := []) X hW hml hl.1 (c_X6_isSlot l g hDW  _ m1 _ e2) ⟨mw_1013, kw_X6_isSlot⟩ ⟨⟨rfl, rfl⟩, ko_X6_isSlot, ⟨Nat.le_of_ble_eq_true rfl, Nat.le_of_ble_eq_true rfl⟩⟩ rfl rfl (Nat.le_of_ble_eq_true rfl) dX6_safest_6 ⟨Nat.le_of_ble_eq_true rfl, Nat.le_of_ble_eq_true rfl⟩) (fun H locs hW => ?_)
  refine lv_if_eq (tgt := 20) hx hb dX6_safest_9 (by decide) (fun c11 => ?_) (fun c11 => ?_)
  · replace hf := ite_t hf c11
    refine lv_aload_n hx hb dX6_safest_20 rfl (lv_at hl 0 rfl) ?_
    refine lv_iconst (v := 1) hx hb dX6_safest_21 (by decide) ?_
    obtain ⟨r6, m7, e5, hf⟩ := bn2_ex hf
    refine k_i X hW (k_V (As := [.int 1]) (rest := []) X hW hml hl.1 (c_X6_fails l g hDW  _ m1 _ _ e5) (r_recv X hW 21 0 (by decide) (by decide) rfl rfl) ⟨mw_1019, kw_X6_fails⟩ ⟨⟨rfl, rfl⟩, ko_X6_fails, ⟨Nat.le_of_ble_eq_true rfl, Nat.le_of_ble_eq_true rfl⟩⟩ rfl rfl (Nat.le_of_ble_eq_true rfl) dX6_safest_22 ⟨Nat.le_of_ble_eq_true rfl, Nat.le_of_ble_eq_true rfl⟩) (fun H locs hW => ?_)
    obtain ⟨hf, hm⟩ := prinj hf
    replace hW := hW.same hm.symm
    exact e_i X hr hW (hf) dX6_safest_25
  · replace hf := ite_f hf c11
    refine lv_aload_n hx hb dX6_safest_12 rfl (lv_at hl 0 rfl) ?_
    refine lv_iload_n hx hb dX6_safest_13 rfl (lv_at hl 1 rfl) ?_
    obtain ⟨r9, e8, hf⟩ := bnd_ex hf
    refine k_i X hW (k_V (As := [.int x1]) (rest := []) X hW hml hl.1 (c_X6_safestSign l g hDW  _ m1 _ e8) (r_recv X hW 21 0 (by decide) (by decide) rfl rfl) ⟨mw_1275, kw_X6_safestSign⟩ ⟨⟨rfl, rfl⟩, ko_X6_safestSign, ⟨Nat.le_of_ble_eq_true rfl, Nat.le_of_ble_eq_true rfl⟩⟩ rfl rfl (Nat.le_of_ble_eq_true rfl) dX6_safest_14 ⟨Nat.le_of_ble_eq_true rfl, Nat.le_of_ble_eq_true rfl⟩) (fun H locs hW => ?_)
    refine lv_goto (tgt := 25) hx hb dX6_safest_17 (by decide) ?_
    obtain ⟨hf, hm⟩ := prinj hf
    replace hW := hW.same hm.symm
    exact e_i X hr hW (hf) dX6_safest_25
set_option maxRecDepth 100000 in
set_option maxHeartbeats 4000000 in
theorem c_X6_lit (l : Launch) (g : gG) (hDW : DW g) (mm : gM) (r0 : UInt64) (hf : fX6_lit mm = some r0) : Met l yX6_lit (Cond.code yX6_lit cX6_lit 3 (some .double) :: ALLW) rm_X6_lit (CPre g mm [.ref (ad g 21 0)]) (CD g mm r0) 0 0 (gA g) := by
  refine Met.ofW (cc := cX6_lit) (maxL := 3) (ret := (some .double)) (by decide) rfl ?_
  intro p e s m args below meth c s₁ B hml hv
  obtain ⟨ha, hFx, hP0, hlo⟩ := hv
  have X : Cx g p s m args c meth RX6 cX6_lit := Cx_of hDW hFx hlo B
  have hx := X.1
  have hb := X.2.1
  have hr := B.returns
  have hlocks := X.2.2.2.2.2.2.2
  have hW : Wd g mm s s.heap [] := ⟨hP0, va_S.rf⟩
  rw [ha, lg_entry_eq]
  have hl := lv_entry ([.ref (ad g 21 0)] : List Value) (n := 3) (Nat.le_of_ble_eq_true rfl)
  generalize (lg_sl ([.ref (ad g 21 0)] : List Value) ++ List.replicate (3 - (lg_sl ([.ref (ad g 21 0)] : List Value)).length) Slot.unset).toArray = ls at hl ⊢
  have hl : lv_has ls 3 [(0, .ref (ad g 21 0))] := hl
  rw [← ha]
  show W p l e rm_X6_lit s m args below meth c s.heap [] 0 0 (MQ below (CD g mm r0) args s 0 0 (gA g)) (F0 m 0 ls [])
  have P_41 : ∀ (s0 : UInt64) (H : Heap) (locs : List Loc) (ls : Array Slot), Wd g mm s H locs → lv_has ls 3 [] → jX6_lit_41 mm s0 = some r0 → W p l e rm_X6_lit s m args below meth c H locs 0 0 (MQ below (CD g mm r0) args s 0 0 (gA g)) (F0 m 41 ls [.double s0]) := by
    intro s0 H locs ls hW hl hf
    unfold jX6_lit_41 at hf
    exact e_d X hr hW (someinj hf) dX6_lit_41
  have P_25 : ∀ (x1 : Int32) (H : Heap) (locs : List Loc) (ls : Array Slot), Wd g mm s H locs → lv_has ls 3 [(0, .ref (ad g 21 0)), (1, .int x1)] → jX6_lit_25 mm x1 = some r0 → W p l e rm_X6_lit s m args below meth c H locs 0 0 (MQ below (CD g mm r0) args s 0 0 (gA g)) (F0 m 25 ls []) := by
    intro x1 H locs ls hW hl hf
    unfold jX6_lit_25 at hf
    refine lv_iload_n hx hb dX6_lit_25 rfl (lv_at hl 1 rfl) ?_
    refine lv_if_ne (tgt := 33) hx hb dX6_lit_26 (by decide) (fun c9 => ?_) (fun c9 => ?_)
    · replace hf := ite_f hf c9
      refine lv_iload_n hx hb dX6_lit_33 rfl (lv_at hl 1 rfl) ?_
      refine lv_i2d hx hb dX6_lit_34 ?_
      refine lv_aload_n hx hb dX6_lit_35 rfl (lv_at hl 0 rfl) ?_
      obtain ⟨r6, e5, hf⟩ := bnd_ex hf
      refine k_i X hW (k_V (As := []) (rest := [.double (FP.i2d x1)]) X hW hml hl.1 (c_X6_roundTicks l g hDW   mm _ e5) (r_recv X hW 21 0 (by decide) (by decide) rfl rfl) ⟨mw_1088, kw_X6_roundTicks⟩ ⟨⟨rfl, rfl⟩, ko_X6_roundTicks, ⟨Nat.le_of_ble_eq_true rfl, Nat.le_of_ble_eq_true rfl⟩⟩ rfl rfl (Nat.le_of_ble_eq_true rfl) dX6_lit_36 ⟨Nat.le_of_ble_eq_true rfl, Nat.le_of_ble_eq_true rfl⟩) (fun H locs hW => ?_)
      refine lv_i2d hx hb dX6_lit_39 ?_
      obtain ⟨b8, hf⟩ := chk_ex hf
      refine lv_ddiv hx hb dX6_lit_40 b8 ?_
      exact P_41 _ _ _ _ hW (lv_sub hl [] rfl) hf
    · replace hf := ite_t hf c9
      refine lv_dconst0 hx hb dX6_lit_29 ?_
      refine lv_goto (tgt := 41) hx hb dX6_lit_30 (by decide) ?_
      exact P_41 _ _ _ _ hW (lv_sub hl [] rfl) hf
  have P_4 : ∀ (n4 : Nat) (x1 : Int32) (x2 : Int32) (H : Heap) (locs : List Loc) (ls : Array Slot), Wd g mm s H locs → lv_has ls 3 [(0, .ref (ad g 21 0)), (1, .int x1), (2, .int x2)] → lX6_lit_4 mm n4 x1 x2 = some r0 → W p l e rm_X6_lit s m args below meth c H locs 0 0 (MQ below (CD g mm r0) args s 0 0 (gA g)) (F0 m 4 ls []) := by
    intro n4
    induction n4 with
    | zero => intro x1 x2 H locs ls hW hl hf; exact (no_some hf).elim
    | succ n4 ih_4 =>
      intro x1 x2 H locs ls hW hl hf
      rw [lX6_lit_4_s] at hf
      refine lv_iload_n hx hb dX6_lit_4 rfl (lv_at hl 2 rfl) ?_
      refine lv_bipush (v := 6) hx hb dX6_lit_5 (by decide) ?_
      refine lv_icmp_ge (tgt := 25) hx hb dX6_lit_7 (by decide) (fun c4 => ?_) (fun c4 => ?_)
      · replace hf := ite_t hf c4
        exact P_25 _ _ _ _ hW (lv_sub hl [0, 1] rfl) hf
      · replace hf := ite_f hf c4
        refine lv_iload_n hx hb dX6_lit_10 rfl (lv_at hl 1 rfl) ?_
        refine lv_aload_n hx hb dX6_lit_11 rfl (lv_at hl 0 rfl) ?_
        refine lv_iload_n hx hb dX6_lit_12 rfl (lv_at hl 2 rfl) ?_
        refine lv_iconst (v := 2) hx hb dX6_lit_13 (by decide) ?_
        obtain ⟨r2, e1, hf⟩ := bnd_ex hf
        refine k_i X hW (k_V (As := [.int x2, .int 2]) (rest := [.int x1]) X hW hml hl.1 (c_X6_of l g hDW  _ _ mm _ e1) (r_recv X hW 21 0 (by decide) (by decide) rfl rfl) ⟨mw_1027, kw_X6_of⟩ ⟨⟨rfl, rfl⟩, ko_X6_of, ⟨Nat.le_of_ble_eq_true rfl, Nat.le_of_ble_eq_true rfl⟩⟩ rfl rfl (Nat.le_of_ble_eq_true rfl) dX6_lit_14 ⟨Nat.le_of_ble_eq_true rfl, Nat.le_of_ble_eq_true rfl⟩) (fun H locs hW => ?_)
        refine lv_iadd hx hb dX6_lit_17 ?_
        refine lv_istore_n (lv' := [(1, .int (x1 + r2)), (0, .ref (ad g 21 0)), (2, .int x2)]) hx hb dX6_lit_18 rfl hl (by decide) rfl (fun ls hl => ?_)
        refine lv_iinc (v := x2 + 1) (lv' := [(2, .int (x2 + 1)), (1, .int (x1 + r2)), (0, .ref (ad g 21 0))]) hx hb dX6_lit_19 hl (k := 2) rfl rfl (by decide) rfl (fun ls hl => ?_)
        refine lv_goto (tgt := 4) hx hb dX6_lit_22 (by decide) ?_
        exact ih_4 _ _ _ _ _ hW (lv_sub hl [2, 1, 0] rfl) hf
  unfold fX6_lit at hf
  refine lv_iconst (v := 0) hx hb dX6_lit_0 (by decide) ?_
  refine lv_istore_n (lv' := [(1, .int 0), (0, .ref (ad g 21 0))]) hx hb dX6_lit_1 rfl hl (by decide) rfl (fun ls hl => ?_)
  refine lv_iconst (v := 0) hx hb dX6_lit_2 (by decide) ?_
  refine lv_istore_n (lv' := [(2, .int 0), (1, .int 0), (0, .ref (ad g 21 0))]) hx hb dX6_lit_3 rfl hl (by decide) rfl (fun ls hl => ?_)
  exact P_4 _ _ _ _ _ _ hW (lv_sub hl [2, 1, 0] rfl) hf
set_option maxRecDepth 100000 in
set_option maxHeartbeats 4000000 in
theorem c_X6_litShare (l : Launch) (g : gG) (hDW : DW g) (mm : gM) (r0 : UInt64) (mZ : gM) (hf : fX6_litShare mm = some (r0, mZ)) : Met l yX6_litShare (Cond.code yX6_litShare cX6_litShare 1 (some .double) :: ALLW) rm_X6_litShare (CPre g mm [.ref (ad g 21 0)]) (CD g mZ r0) 0 0 (gA g) := by
  refine Met.ofW (cc := cX6_litShare) (maxL := 1) (ret := (some .double)) (by decide) rfl ?_
  intro p e s m args below meth c s₁ B hml hv
  obtain ⟨ha, hFx, hP0, hlo⟩ := hv
  have X : Cx g p s m args c meth RX6 cX6_litShare := Cx_of hDW hFx hlo B
  have hx := X.1
  have hb := X.2.1
  have hr := B.returns
  have hlocks := X.2.2.2.2.2.2.2
  have hW : Wd g mm s s.heap [] := ⟨hP0, va_S.rf⟩
  rw [ha, lg_entry_eq]
  have hl := lv_entry ([.ref (ad g 21 0)] : List Value) (n := 1) (Nat.le_of_ble_eq_true rfl)
  generalize (lg_sl ([.ref (ad g 21 0)] : List Value) ++ List.replicate (1 - (lg_sl ([.ref (ad g 21 0)] : List Value)).length) Slot.unset).toArray = ls at hl ⊢
  have hl : lv_has ls 1 [(0, .ref (ad g 21 0))] := hl
  rw [← ha]
  show W p l e rm_X6_litShare s m args below meth c s.heap [] 0 0 (MQ below (CD g mZ r0) args s 0 0 (gA g)) (F0 m 0 ls [])
  unfold fX6_litShare at hf
  refine lv_aload_n hx hb dX6_litShare_0 rfl (lv_at hl 0 rfl) ?_
  refine lv_iconst (v := 0) hx hb dX6_litShare_1 (by decide) ?_
  obtain ⟨m1, ex, hf⟩ := wth_ex hf
  refine pf_21_0 X hW (by decide) mw_947 dX6_litShare_2 (fun H locs hW => ?_)
  replace hW := hW.same ex
  clear ex
  refine lv_aload_n hx hb dX6_litShare_5 rfl (lv_at hl 0 rfl) ?_
  obtain ⟨r3, e2, hf⟩ := bnd_ex hf
  refine k_d X hW (k_V (As := []) (rest := []) X hW hml hl.1 (c_X6_lit l g hDW   m1 _ e2) (r_recv X hW 21 0 (by decide) (by decide) rfl rfl) ⟨mw_1283, kw_X6_lit⟩ ⟨⟨rfl, rfl⟩, ko_X6_lit, ⟨Nat.le_of_ble_eq_true rfl, Nat.le_of_ble_eq_true rfl⟩⟩ rfl rfl (Nat.le_of_ble_eq_true rfl) dX6_litShare_6 ⟨Nat.le_of_ble_eq_true rfl, Nat.le_of_ble_eq_true rfl⟩) (fun H locs hW => ?_)
  obtain ⟨hf, hm⟩ := prinj hf
  replace hW := hW.same hm.symm
  exact e_d X hr hW (hf) dX6_litShare_9
set_option maxRecDepth 100000 in
set_option maxHeartbeats 4000000 in
theorem c_X6_mean (l : Launch) (g : gG) (hDW : DW g) (mm : gM) (r0 : UInt32) (hf : fX6_mean mm = some r0) : Met l yX6_mean (Cond.code yX6_mean cX6_mean 3 (some .float) :: ALLW) rm_X6_mean (CPre g mm [.ref (ad g 21 0)]) (CF g mm r0) 0 0 (gA g) := by
  refine Met.ofW (cc := cX6_mean) (maxL := 3) (ret := (some .float)) (by decide) rfl ?_
  intro p e s m args below meth c s₁ B hml hv
  obtain ⟨ha, hFx, hP0, hlo⟩ := hv
  have X : Cx g p s m args c meth RX6 cX6_mean := Cx_of hDW hFx hlo B
  have hx := X.1
  have hb := X.2.1
  have hr := B.returns
  have hlocks := X.2.2.2.2.2.2.2
  have hW : Wd g mm s s.heap [] := ⟨hP0, va_S.rf⟩
  rw [ha, lg_entry_eq]
  have hl := lv_entry ([.ref (ad g 21 0)] : List Value) (n := 3) (Nat.le_of_ble_eq_true rfl)
  generalize (lg_sl ([.ref (ad g 21 0)] : List Value) ++ List.replicate (3 - (lg_sl ([.ref (ad g 21 0)] : List Value)).length) Slot.unset).toArray = ls at hl ⊢
  have hl : lv_has ls 3 [(0, .ref (ad g 21 0))] := hl
  rw [← ha]
  show W p l e rm_X6_mean s m args below meth c s.heap [] 0 0 (MQ below (CF g mm r0) args s 0 0 (gA g)) (F0 m 0 ls [])
  have P_54 : ∀ (s0 : UInt32) (H : Heap) (locs : List Loc) (ls : Array Slot), Wd g mm s H locs → lv_has ls 3 [] → jX6_mean_54 mm s0 = some r0 → W p l e rm_X6_mean s m args below meth c H locs 0 0 (MQ below (CF g mm r0) args s 0 0 (gA g)) (F0 m 54 ls [.float s0]) := by
    intro s0 H locs ls hW hl hf
    unfold jX6_mean_54 at hf
    exact e_f X hr hW (someinj hf) dX6_mean_54
  have P_36 : ∀ (x1 : Int32) (H : Heap) (locs : List Loc) (ls : Array Slot), Wd g mm s H locs → lv_has ls 3 [(0, .ref (ad g 21 0)), (1, .int x1)] → jX6_mean_36 mm x1 = some r0 → W p l e rm_X6_mean s m args below meth c H locs 0 0 (MQ below (CF g mm r0) args s 0 0 (gA g)) (F0 m 36 ls []) := by
    intro x1 H locs ls hW hl hf
    unfold jX6_mean_36 at hf
    refine lv_aload_n hx hb dX6_mean_36 rfl (lv_at hl 0 rfl) ?_
    obtain ⟨r10, e9, hf⟩ := bnd_ex hf
    refine k_i X hW (k_V (As := []) (rest := []) X hW hml hl.1 (c_X6_workingSlots l g hDW   mm _ e9) (r_recv X hW 21 0 (by decide) (by decide) rfl rfl) ⟨mw_1054, kw_X6_workingSlots⟩ ⟨⟨rfl, rfl⟩, ko_X6_workingSlots, ⟨Nat.le_of_ble_eq_true rfl, Nat.le_of_ble_eq_true rfl⟩⟩ rfl rfl (Nat.le_of_ble_eq_true rfl) dX6_mean_37 ⟨Nat.le_of_ble_eq_true rfl, Nat.le_of_ble_eq_true rfl⟩) (fun H locs hW => ?_)
    refine lv_istore_n (lv' := [(2, .int r10), (0, .ref (ad g 21 0)), (1, .int x1)]) hx hb dX6_mean_40 rfl hl (by decide) rfl (fun ls hl => ?_)
    refine lv_iload_n hx hb dX6_mean_41 rfl (lv_at hl 0 rfl) ?_
    refine lv_if_ne (tgt := 49) hx hb dX6_mean_42 (by decide) (fun c13 => ?_) (fun c13 => ?_)
    · replace hf := ite_f hf c13
      refine lv_iload_n hx hb dX6_mean_49 rfl (lv_at hl 2 rfl) ?_
      refine lv_i2f hx hb dX6_mean_50 ?_
      refine lv_iload_n hx hb dX6_mean_51 rfl (lv_at hl 0 rfl) ?_
      refine lv_i2f hx hb dX6_mean_52 ?_
      obtain ⟨b12, hf⟩ := chk_ex hf
      refine lv_fdiv hx hb dX6_mean_53 b12 ?_
      exact P_54 _ _ _ _ hW (lv_sub hl [] rfl) hf
    · replace hf := ite_t hf c13
      refine lv_fconst0 hx hb dX6_mean_45 ?_
      refine lv_goto (tgt := 54) hx hb dX6_mean_46 (by decide) ?_
      exact P_54 _ _ _ _ hW (lv_sub hl [] rfl) hf
  have P_4 : ∀ (n4 : Nat) (x1 : Int32) (x2 : Int32) (H : Heap) (locs : List Loc) (ls : Array Slot), Wd g mm s H locs → lv_has ls 3 [(0, .ref (ad g 21 0)), (1, .int x1), (2, .int x2)] → lX6_mean_4 mm n4 x1 x2 = some r0 → W p l e rm_X6_mean s m args below meth c H locs 0 0 (MQ below (CF g mm r0) args s 0 0 (gA g)) (F0 m 4 ls []) := by
    intro n4
    induction n4 with
    | zero => intro x1 x2 H locs ls hW hl hf; exact (no_some hf).elim
    | succ n4 ih_4 =>
      have P_28 : ∀ (x2 : Int32) (s0 : Int32) (s1 : Int32) (H : Heap) (locs : List Loc) (ls : Array Slot), Wd g mm s H locs → lv_has ls 3 [(0, .ref (ad g 21 0)), (2, .int x2)] → jX6_mean_28 (lX6_mean_4 mm n4) mm x2 s0 s1 = some r0 → W p l e rm_X6_mean s m args below meth c H locs 0 0 (MQ below (CF g mm r0) args s 0 0 (gA g)) (F0 m 28 ls [.int s1, .int s0]) := by
        intro x2 s0 s1 H locs ls hW hl hf
        unfold jX6_mean_28 at hf
        refine lv_iadd hx hb dX6_mean_28 ?_
        refine lv_istore_n (lv' := [(1, .int (s0 + s1)), (0, .ref (ad g 21 0)), (2, .int x2)]) hx hb dX6_mean_29 rfl hl (by decide) rfl (fun ls hl => ?_)
        refine lv_iinc (v := x2 + 1) (lv' := [(2, .int (x2 + 1)), (1, .int (s0 + s1)), (0, .ref (ad g 21 0))]) hx hb dX6_mean_30 hl (k := 2) rfl rfl (by decide) rfl (fun ls hl => ?_)
        refine lv_goto (tgt := 4) hx hb dX6_mean_33 (by decide) ?_
        exact ih_4 _ _ _ _ _ hW (lv_sub hl [2, 1, 0] rfl) hf
      intro x1 x2 H locs ls hW hl hf
      rw [lX6_mean_4_s] at hf
      refine lv_iload_n hx hb dX6_mean_4 rfl (lv_at hl 2 rfl) ?_
      refine lv_bipush (v := 6) hx hb dX6_mean_5 (by decide) ?_
      refine lv_icmp_ge (tgt := 36) hx hb dX6_mean_7 (by decide) (fun c8 => ?_) (fun c8 => ?_)
      · replace hf := ite_t hf c8
        exact P_36 _ _ _ _ hW (lv_sub hl [0, 1] rfl) hf
      · replace hf := ite_f hf c8
        refine lv_iload_n hx hb dX6_mean_10 rfl (lv_at hl 1 rfl) ?_
        refine lv_aload_n hx hb dX6_mean_11 rfl (lv_at hl 0 rfl) ?_
        refine lv_iload_n hx hb dX6_mean_12 rfl (lv_at hl 2 rfl) ?_
        obtain ⟨r2, e1, hf⟩ := bnd_ex hf
        refine k_i X hW (k_V (As := [.int x2]) (rest := [.int x1]) X hW hml hl.1 (c_X6_works l g hDW  _ mm _ e1) (r_recv X hW 21 0 (by decide) (by decide) rfl rfl) ⟨mw_1058, kw_X6_works⟩ ⟨⟨rfl, rfl⟩, ko_X6_works, ⟨Nat.le_of_ble_eq_true rfl, Nat.le_of_ble_eq_true rfl⟩⟩ rfl rfl (Nat.le_of_ble_eq_true rfl) dX6_mean_13 ⟨Nat.le_of_ble_eq_true rfl, Nat.le_of_ble_eq_true rfl⟩) (fun H locs hW => ?_)
        refine lv_if_eq (tgt := 27) hx hb dX6_mean_16 (by decide) (fun c7 => ?_) (fun c7 => ?_)
        · replace hf := ite_t hf c7
          refine lv_iconst (v := 0) hx hb dX6_mean_27 (by decide) ?_
          exact P_28 _ _ _ _ _ _ hW (lv_sub hl [0, 2] rfl) hf
        · replace hf := ite_f hf c7
          refine lv_aload_n hx hb dX6_mean_19 rfl (lv_at hl 0 rfl) ?_
          refine lv_iload_n hx hb dX6_mean_20 rfl (lv_at hl 2 rfl) ?_
          obtain ⟨r5, e4, hf⟩ := bnd_ex hf
          refine k_i X hW (k_V (As := [.int x2]) (rest := [.int x1]) X hW hml hl.1 (c_X6_meanOf l g hDW  _ mm _ e4) (r_recv X hW 21 0 (by decide) (by decide) rfl rfl) ⟨mw_1203, kw_X6_meanOf⟩ ⟨⟨rfl, rfl⟩, ko_X6_meanOf, ⟨Nat.le_of_ble_eq_true rfl, Nat.le_of_ble_eq_true rfl⟩⟩ rfl rfl (Nat.le_of_ble_eq_true rfl) dX6_mean_21 ⟨Nat.le_of_ble_eq_true rfl, Nat.le_of_ble_eq_true rfl⟩) (fun H locs hW => ?_)
          refine lv_goto (tgt := 28) hx hb dX6_mean_24 (by decide) ?_
          exact P_28 _ _ _ _ _ _ hW (lv_sub hl [0, 2] rfl) hf
  unfold fX6_mean at hf
  refine lv_iconst (v := 0) hx hb dX6_mean_0 (by decide) ?_
  refine lv_istore_n (lv' := [(1, .int 0), (0, .ref (ad g 21 0))]) hx hb dX6_mean_1 rfl hl (by decide) rfl (fun ls hl => ?_)
  refine lv_iconst (v := 0) hx hb dX6_mean_2 (by decide) ?_
  refine lv_istore_n (lv' := [(2, .int 0), (1, .int 0), (0, .ref (ad g 21 0))]) hx hb dX6_mean_3 rfl hl (by decide) rfl (fun ls hl => ?_)
  exact P_4 _ _ _ _ _ _ hW (lv_sub hl [2, 1, 0] rfl) hf
set_option maxRecDepth 100000 in
set_option maxHeartbeats 4000000 in
theorem c_X6_meanBrightness (l : Launch) (g : gG) (hDW : DW g) (mm : gM) (r0 : UInt32) (mZ : gM) (hf : fX6_meanBrightness mm = some (r0, mZ)) : Met l yX6_meanBrightness (Cond.code yX6_meanBrightness cX6_meanBrightness 1 (some .float) :: ALLW) rm_X6_meanBrightness (CPre g mm [.ref (ad g 21 0)]) (CF g mZ r0) 0 0 (gA g) := by
  refine Met.ofW (cc := cX6_meanBrightness) (maxL := 1) (ret := (some .float)) (by decide) rfl ?_
  intro p e s m args below meth c s₁ B hml hv
  obtain ⟨ha, hFx, hP0, hlo⟩ := hv
  have X : Cx g p s m args c meth RX6 cX6_meanBrightness := Cx_of hDW hFx hlo B
  have hx := X.1
  have hb := X.2.1
  have hr := B.returns
  have hlocks := X.2.2.2.2.2.2.2
  have hW : Wd g mm s s.heap [] := ⟨hP0, va_S.rf⟩
  rw [ha, lg_entry_eq]
  have hl := lv_entry ([.ref (ad g 21 0)] : List Value) (n := 1) (Nat.le_of_ble_eq_true rfl)
  generalize (lg_sl ([.ref (ad g 21 0)] : List Value) ++ List.replicate (1 - (lg_sl ([.ref (ad g 21 0)] : List Value)).length) Slot.unset).toArray = ls at hl ⊢
  have hl : lv_has ls 1 [(0, .ref (ad g 21 0))] := hl
  rw [← ha]
  show W p l e rm_X6_meanBrightness s m args below meth c s.heap [] 0 0 (MQ below (CF g mZ r0) args s 0 0 (gA g)) (F0 m 0 ls [])
  unfold fX6_meanBrightness at hf
  refine lv_aload_n hx hb dX6_meanBrightness_0 rfl (lv_at hl 0 rfl) ?_
  refine lv_iconst (v := 0) hx hb dX6_meanBrightness_1 (by decide) ?_
  obtain ⟨m1, ex, hf⟩ := wth_ex hf
  refine pf_21_0 X hW (by decide) mw_947 dX6_meanBrightness_2 (fun H locs hW => ?_)
  replace hW := hW.same ex
  clear ex
  refine lv_aload_n hx hb dX6_meanBrightness_5 rfl (lv_at hl 0 rfl) ?_
  obtain ⟨m4, e2, hf⟩ := bnd_ex hf
  refine k_v X hW (k_V (As := []) (rest := []) X hW hml hl.1 (c_X6_views l g hDW   m1 _ e2) (r_recv X hW 21 0 (by decide) (by decide) rfl rfl) ⟨mw_1160, kw_X6_views⟩ ⟨⟨rfl, rfl⟩, ko_X6_views, ⟨Nat.le_of_ble_eq_true rfl, Nat.le_of_ble_eq_true rfl⟩⟩ rfl rfl (Nat.le_of_ble_eq_true rfl) dX6_meanBrightness_6 ⟨Nat.le_of_ble_eq_true rfl, Nat.le_of_ble_eq_true rfl⟩) (fun H locs hW => ?_)
  refine lv_aload_n hx hb dX6_meanBrightness_9 rfl (lv_at hl 0 rfl) ?_
  obtain ⟨r6, e5, hf⟩ := bnd_ex hf
  refine k_f X hW (k_V (As := []) (rest := []) X hW hml hl.1 (c_X6_mean l g hDW   m4 _ e5) (r_recv X hW 21 0 (by decide) (by decide) rfl rfl) ⟨mw_1291, kw_X6_mean⟩ ⟨⟨rfl, rfl⟩, ko_X6_mean, ⟨Nat.le_of_ble_eq_true rfl, Nat.le_of_ble_eq_true rfl⟩⟩ rfl rfl (Nat.le_of_ble_eq_true rfl) dX6_meanBrightness_10 ⟨Nat.le_of_ble_eq_true rfl, Nat.le_of_ble_eq_true rfl⟩) (fun H locs hW => ?_)
  obtain ⟨hf, hm⟩ := prinj hf
  replace hW := hW.same hm.symm
  exact e_f X hr hW (hf) dX6_meanBrightness_13
set_option maxRecDepth 100000 in
set_option maxHeartbeats 4000000 in
theorem c_X6_hashes (l : Launch) (g : gG) (hDW : DW g) (x1 : Int64) (mm : gM) (mZ : gM) (hf : fX6_hashes x1 mm = some mZ) : Met l yX6_hashes (Cond.code yX6_hashes cX6_hashes 3 none :: ALLW) rm_X6_hashes (CPre g mm [.ref (ad g 21 0), .long x1]) (CV g mZ) 0 0 (gA g) := by
  refine Met.ofW (cc := cX6_hashes) (maxL := 3) (ret := none) (by decide) rfl ?_
  intro p e s m args below meth c s₁ B hml hv
  obtain ⟨ha, hFx, hP0, hlo⟩ := hv
  have X : Cx g p s m args c meth RX6 cX6_hashes := Cx_of hDW hFx hlo B
  have hx := X.1
  have hb := X.2.1
  have hr := B.returns
  have hlocks := X.2.2.2.2.2.2.2
  have hW : Wd g mm s s.heap [] := ⟨hP0, va_S.rf⟩
  rw [ha, lg_entry_eq]
  have hl := lv_entry ([.ref (ad g 21 0), .long x1] : List Value) (n := 3) (Nat.le_of_ble_eq_true rfl)
  generalize (lg_sl ([.ref (ad g 21 0), .long x1] : List Value) ++ List.replicate (3 - (lg_sl ([.ref (ad g 21 0), .long x1] : List Value)).length) Slot.unset).toArray = ls at hl ⊢
  have hl : lv_has ls 3 [(0, .ref (ad g 21 0)), (1, .long x1)] := hl
  rw [← ha]
  show W p l e rm_X6_hashes s m args below meth c s.heap [] 0 0 (MQ below (CV g mZ) args s 0 0 (gA g)) (F0 m 0 ls [])
  unfold fX6_hashes at hf
  refine lv_aload_n hx hb dX6_hashes_0 rfl (lv_at hl 0 rfl) ?_
  refine lv_ldc2 hx hb X.2.2.1 (X.2.2.2.1 _ mw_1304) dX6_hashes_1 ?_
  refine lv_aload_n hx hb dX6_hashes_4 rfl (lv_at hl 0 rfl) ?_
  refine gf_21_18 X hW (by decide) mw_965 dX6_hashes_5 ?_
  refine lv_lmul hx hb dX6_hashes_8 ?_
  refine lv_lload_n hx hb dX6_hashes_9 rfl (lv_at hl 1 rfl) ?_
  refine lv_ladd hx hb dX6_hashes_10 ?_
  obtain ⟨m1, ex, hf⟩ := wth_ex hf
  refine pf_21_18 X hW (by decide) mw_965 dX6_hashes_11 (fun H locs hW => ?_)
  replace hW := hW.same ex
  clear ex
  replace hW := hW.same (someinj hf).symm
  exact e_v X hr hW dX6_hashes_14
set_option maxRecDepth 100000 in
set_option maxHeartbeats 4000000 in
theorem c_X6_hashesSlot (l : Launch) (g : gG) (hDW : DW g) (x1 : Int32) (mm : gM) (mZ : gM) (hf : fX6_hashesSlot x1 mm = some mZ) : Met l yX6_hashesSlot (Cond.code yX6_hashesSlot cX6_hashesSlot 3 none :: ALLW) rm_X6_hashesSlot (CPre g mm [.ref (ad g 21 0), .int x1]) (CV g mZ) 0 0 (gA g) := by
  refine Met.ofW (cc := cX6_hashesSlot) (maxL := 3) (ret := none) (by decide) rfl ?_
  intro p e s m args below meth c s₁ B hml hv
  obtain ⟨ha, hFx, hP0, hlo⟩ := hv
  have X : Cx g p s m args c meth RX6 cX6_hashesSlot := Cx_of hDW hFx hlo B
  have hx := X.1
  have hb := X.2.1
  have hr := B.returns
  have hlocks := X.2.2.2.2.2.2.2
  have hW : Wd g mm s s.heap [] := ⟨hP0, va_S.rf⟩
  rw [ha, lg_entry_eq]
  have hl := lv_entry ([.ref (ad g 21 0), .int x1] : List Value) (n := 3) (Nat.le_of_ble_eq_true rfl)
  generalize (lg_sl ([.ref (ad g 21 0), .int x1] : List Value) ++ List.replicate (3 - (lg_sl ([.ref (ad g 21 0), .int x1] : List Value)).length) Slot.unset).toArray = ls at hl ⊢
  have hl : lv_has ls 3 [(0, .ref (ad g 21 0)), (1, .int x1)] := hl
  rw [← ha]
  show W p l e rm_X6_hashesSlot s m args below meth c s.heap [] 0 0 (MQ below (CV g mZ) args s 0 0 (gA g)) (F0 m 0 ls [])
  have P_55 : ∀ (x1 : Int32) (mm : gM) (H : Heap) (locs : List Loc) (ls : Array Slot), Wd g mm s H locs → lv_has ls 3 [(0, .ref (ad g 21 0)), (1, .int x1)] → jX6_hashesSlot_55 x1 mm = some mZ → W p l e rm_X6_hashesSlot s m args below meth c H locs 0 0 (MQ below (CV g mZ) args s 0 0 (gA g)) (F0 m 55 ls []) := by
    intro x1 mm H locs ls hW hl hf
    unfold jX6_hashesSlot_55 at hf
    refine lv_aload_n hx hb dX6_hashesSlot_55 rfl (lv_at hl 0 rfl) ?_
    refine lv_aload_n hx hb dX6_hashesSlot_56 rfl (lv_at hl 0 rfl) ?_
    refine lv_iload_n hx hb dX6_hashesSlot_57 rfl (lv_at hl 1 rfl) ?_
    refine lv_iconst (v := 0) hx hb dX6_hashesSlot_58 (by decide) ?_
    obtain ⟨r18, e17, hf⟩ := bnd_ex hf
    refine k_i X hW (k_V (As := [.int x1, .int 0]) (rest := [.ref (ad g 21 0)]) X hW hml hl.1 (c_X6_could l g hDW  _ _ mm _ e17) (r_recv X hW 21 0 (by decide) (by decide) rfl rfl) ⟨mw_1251, kw_X6_could⟩ ⟨⟨rfl, rfl⟩, ko_X6_could, ⟨Nat.le_of_ble_eq_true rfl, Nat.le_of_ble_eq_true rfl⟩⟩ rfl rfl (Nat.le_of_ble_eq_true rfl) dX6_hashesSlot_59 ⟨Nat.le_of_ble_eq_true rfl, Nat.le_of_ble_eq_true rfl⟩) (fun H locs hW => ?_)
    refine lv_i2l hx hb dX6_hashesSlot_62 (v := r18.toInt64) rfl ?_
    obtain ⟨m22, e20, hf⟩ := bnd_ex hf
    refine k_v X hW (k_V (As := [.long r18.toInt64]) (rest := []) X hW hml hl.1 (c_X6_hashes l g hDW  _ mm _ e20) (r_recv X hW 21 0 (by decide) (by decide) rfl rfl) ⟨mw_1300, kw_X6_hashes⟩ ⟨⟨rfl, rfl⟩, ko_X6_hashes, ⟨Nat.le_of_ble_eq_true rfl, Nat.le_of_ble_eq_true rfl⟩⟩ rfl rfl (Nat.le_of_ble_eq_true rfl) dX6_hashesSlot_63 ⟨Nat.le_of_ble_eq_true rfl, Nat.le_of_ble_eq_true rfl⟩) (fun H locs hW => ?_)
    refine lv_aload_n hx hb dX6_hashesSlot_66 rfl (lv_at hl 0 rfl) ?_
    refine lv_aload_n hx hb dX6_hashesSlot_67 rfl (lv_at hl 0 rfl) ?_
    refine lv_iload_n hx hb dX6_hashesSlot_68 rfl (lv_at hl 1 rfl) ?_
    refine lv_iconst (v := 1) hx hb dX6_hashesSlot_69 (by decide) ?_
    obtain ⟨r24, e23, hf⟩ := bnd_ex hf
    refine k_i X hW (k_V (As := [.int x1, .int 1]) (rest := [.ref (ad g 21 0)]) X hW hml hl.1 (c_X6_could l g hDW  _ _ m22 _ e23) (r_recv X hW 21 0 (by decide) (by decide) rfl rfl) ⟨mw_1251, kw_X6_could⟩ ⟨⟨rfl, rfl⟩, ko_X6_could, ⟨Nat.le_of_ble_eq_true rfl, Nat.le_of_ble_eq_true rfl⟩⟩ rfl rfl (Nat.le_of_ble_eq_true rfl) dX6_hashesSlot_70 ⟨Nat.le_of_ble_eq_true rfl, Nat.le_of_ble_eq_true rfl⟩) (fun H locs hW => ?_)
    refine lv_i2l hx hb dX6_hashesSlot_73 (v := r24.toInt64) rfl ?_
    obtain ⟨m28, e26, hf⟩ := bnd_ex hf
    refine k_v X hW (k_V (As := [.long r24.toInt64]) (rest := []) X hW hml hl.1 (c_X6_hashes l g hDW  _ m22 _ e26) (r_recv X hW 21 0 (by decide) (by decide) rfl rfl) ⟨mw_1300, kw_X6_hashes⟩ ⟨⟨rfl, rfl⟩, ko_X6_hashes, ⟨Nat.le_of_ble_eq_true rfl, Nat.le_of_ble_eq_true rfl⟩⟩ rfl rfl (Nat.le_of_ble_eq_true rfl) dX6_hashesSlot_74 ⟨Nat.le_of_ble_eq_true rfl, Nat.le_of_ble_eq_true rfl⟩) (fun H locs hW => ?_)
    refine lv_aload_n hx hb dX6_hashesSlot_77 rfl (lv_at hl 0 rfl) ?_
    refine lv_aload_n hx hb dX6_hashesSlot_78 rfl (lv_at hl 0 rfl) ?_
    refine lv_bipush (v := 20) hx hb dX6_hashesSlot_79 (by decide) ?_
    refine lv_iload_n hx hb dX6_hashesSlot_81 rfl (lv_at hl 1 rfl) ?_
    obtain ⟨r30, m31, e29, hf⟩ := bn2_ex hf
    refine k_i X hW (k_V (As := [.int 20, .int x1]) (rest := [.ref (ad g 21 0)]) X hW hml hl.1 (c_X6_balanced l g hDW  _ _ m28 _ _ e29) (r_recv X hW 21 0 (by decide) (by decide) rfl rfl) ⟨mw_1267, kw_X6_balanced⟩ ⟨⟨rfl, rfl⟩, ko_X6_balanced, ⟨Nat.le_of_ble_eq_true rfl, Nat.le_of_ble_eq_true rfl⟩⟩ rfl rfl (Nat.le_of_ble_eq_true rfl) dX6_hashesSlot_82 ⟨Nat.le_of_ble_eq_true rfl, Nat.le_of_ble_eq_true rfl⟩) (fun H locs hW => ?_)
    refine lv_i2l hx hb dX6_hashesSlot_85 (v := r30.toInt64) rfl ?_
    obtain ⟨m34, e32, hf⟩ := bnd_ex hf
    refine k_v X hW (k_V (As := [.long r30.toInt64]) (rest := []) X hW hml hl.1 (c_X6_hashes l g hDW  _ m31 _ e32) (r_recv X hW 21 0 (by decide) (by decide) rfl rfl) ⟨mw_1300, kw_X6_hashes⟩ ⟨⟨rfl, rfl⟩, ko_X6_hashes, ⟨Nat.le_of_ble_eq_true rfl, Nat.le_of_ble_eq_true rfl⟩⟩ rfl rfl (Nat.le_of_ble_eq_true rfl) dX6_hashesSlot_86 ⟨Nat.le_of_ble_eq_true rfl, Nat.le_of_ble_eq_true rfl⟩) (fun H locs hW => ?_)
    refine lv_aload_n hx hb dX6_hashesSlot_89 rfl (lv_at hl 0 rfl) ?_
    refine lv_aload_n hx hb dX6_hashesSlot_90 rfl (lv_at hl 0 rfl) ?_
    refine lv_iload_n hx hb dX6_hashesSlot_91 rfl (lv_at hl 1 rfl) ?_
    obtain ⟨r36, e35, hf⟩ := bnd_ex hf
    refine k_i X hW (k_V (As := [.int x1]) (rest := [.ref (ad g 21 0)]) X hW hml hl.1 (c_X6_safestSign l g hDW  _ m34 _ e35) (r_recv X hW 21 0 (by decide) (by decide) rfl rfl) ⟨mw_1275, kw_X6_safestSign⟩ ⟨⟨rfl, rfl⟩, ko_X6_safestSign, ⟨Nat.le_of_ble_eq_true rfl, Nat.le_of_ble_eq_true rfl⟩⟩ rfl rfl (Nat.le_of_ble_eq_true rfl) dX6_hashesSlot_92 ⟨Nat.le_of_ble_eq_true rfl, Nat.le_of_ble_eq_true rfl⟩) (fun H locs hW => ?_)
    refine lv_i2l hx hb dX6_hashesSlot_95 (v := r36.toInt64) rfl ?_
    obtain ⟨m40, e38, hf⟩ := bnd_ex hf
    refine k_v X hW (k_V (As := [.long r36.toInt64]) (rest := []) X hW hml hl.1 (c_X6_hashes l g hDW  _ m34 _ e38) (r_recv X hW 21 0 (by decide) (by decide) rfl rfl) ⟨mw_1300, kw_X6_hashes⟩ ⟨⟨rfl, rfl⟩, ko_X6_hashes, ⟨Nat.le_of_ble_eq_true rfl, Nat.le_of_ble_eq_true rfl⟩⟩ rfl rfl (Nat.le_of_ble_eq_true rfl) dX6_hashesSlot_96 ⟨Nat.le_of_ble_eq_true rfl, Nat.le_of_ble_eq_true rfl⟩) (fun H locs hW => ?_)
    replace hW := hW.same (someinj hf).symm
    exact e_v X hr hW dX6_hashesSlot_99
  have P_27 : ∀ (n27 : Nat) (x1 : Int32) (x2 : Int32) (mm : gM) (H : Heap) (locs : List Loc) (ls : Array Slot), Wd g mm s H locs → lv_has ls 3 [(0, .ref (ad g 21 0)), (1, .int x1), (2, .int x2)] → lX6_hashesSlot_27 n27 x1 x2 mm = some mZ → W p l e rm_X6_hashesSlot s m args below meth c H locs 0 0 (MQ below (CV g mZ) args s 0 0 (gA g)) (F0 m 27 ls []) := by
    intro n27
    induction n27 with
    | zero => intro x1 x2 mm H locs ls hW hl hf; exact (no_some hf).elim
    | succ n27 ih_27 =>
      intro x1 x2 mm H locs ls hW hl hf
      rw [lX6_hashesSlot_27_s] at hf
      refine lv_iload_n hx hb dX6_hashesSlot_27 rfl (lv_at hl 2 rfl) ?_
      refine lv_bipush (v := 32) hx hb dX6_hashesSlot_28 (by decide) ?_
      refine lv_icmp_ge (tgt := 55) hx hb dX6_hashesSlot_30 (by decide) (fun c16 => ?_) (fun c16 => ?_)
      · replace hf := ite_t hf c16
        exact P_55 _ _ _ _ _ hW (lv_sub hl [0, 1] rfl) hf
      · replace hf := ite_f hf c16
        refine lv_aload_n hx hb dX6_hashesSlot_33 rfl (lv_at hl 0 rfl) ?_
        refine lv_aload_n hx hb dX6_hashesSlot_34 rfl (lv_at hl 0 rfl) ?_
        refine lv_iload_n hx hb dX6_hashesSlot_35 rfl (lv_at hl 1 rfl) ?_
        refine lv_iload_n hx hb dX6_hashesSlot_36 rfl (lv_at hl 2 rfl) ?_
        refine lv_iconst (v := 4) hx hb dX6_hashesSlot_37 (by decide) ?_
        obtain ⟨b8, hf⟩ := chk_ex hf
        refine lv_idiv hx hb dX6_hashesSlot_38 b8 ?_
        refine lv_iload_n hx hb dX6_hashesSlot_39 rfl (lv_at hl 2 rfl) ?_
        refine lv_iconst (v := 4) hx hb dX6_hashesSlot_40 (by decide) ?_
        obtain ⟨b9, hf⟩ := chk_ex hf
        refine r_irem hx hb dX6_hashesSlot_41 b9 ?_
        obtain ⟨r11, e10, hf⟩ := bnd_ex hf
        refine k_i X hW (k_V (As := [.int x1, .int (x2 / 4), .int (irm x2 4)]) (rest := [.ref (ad g 21 0)]) X hW hml hl.1 (c_X6_tellsSegment l g hDW  _ _ _ mm _ e10) (r_recv X hW 21 0 (by decide) (by decide) rfl rfl) ⟨mw_1211, kw_X6_tellsSegment⟩ ⟨⟨rfl, rfl⟩, ko_X6_tellsSegment, ⟨Nat.le_of_ble_eq_true rfl, Nat.le_of_ble_eq_true rfl⟩⟩ rfl rfl (Nat.le_of_ble_eq_true rfl) dX6_hashesSlot_42 ⟨Nat.le_of_ble_eq_true rfl, Nat.le_of_ble_eq_true rfl⟩) (fun H locs hW => ?_)
        refine lv_i2l hx hb dX6_hashesSlot_45 (v := r11.toInt64) rfl ?_
        obtain ⟨m15, e13, hf⟩ := bnd_ex hf
        refine k_v X hW (k_V (As := [.long r11.toInt64]) (rest := []) X hW hml hl.1 (c_X6_hashes l g hDW  _ mm _ e13) (r_recv X hW 21 0 (by decide) (by decide) rfl rfl) ⟨mw_1300, kw_X6_hashes⟩ ⟨⟨rfl, rfl⟩, ko_X6_hashes, ⟨Nat.le_of_ble_eq_true rfl, Nat.le_of_ble_eq_true rfl⟩⟩ rfl rfl (Nat.le_of_ble_eq_true rfl) dX6_hashesSlot_46 ⟨Nat.le_of_ble_eq_true rfl, Nat.le_of_ble_eq_true rfl⟩) (fun H locs hW => ?_)
        refine lv_iinc (v := x2 + 1) (lv' := [(2, .int (x2 + 1)), (0, .ref (ad g 21 0)), (1, .int x1)]) hx hb dX6_hashesSlot_49 hl (k := 2) rfl rfl (by decide) rfl (fun ls hl => ?_)
        refine lv_goto (tgt := 27) hx hb dX6_hashesSlot_52 (by decide) ?_
        exact ih_27 _ _ _ _ _ _ hW (lv_sub hl [1, 2, 0] rfl) hf
  have P_25 : ∀ (x1 : Int32) (mm : gM) (H : Heap) (locs : List Loc) (ls : Array Slot), Wd g mm s H locs → lv_has ls 3 [(0, .ref (ad g 21 0)), (1, .int x1)] → jX6_hashesSlot_25 x1 mm = some mZ → W p l e rm_X6_hashesSlot s m args below meth c H locs 0 0 (MQ below (CV g mZ) args s 0 0 (gA g)) (F0 m 25 ls []) := by
    intro x1 mm H locs ls hW hl hf
    unfold jX6_hashesSlot_25 at hf
    refine lv_iconst (v := 0) hx hb dX6_hashesSlot_25 (by decide) ?_
    refine lv_istore_n (lv' := [(2, .int 0), (0, .ref (ad g 21 0)), (1, .int x1)]) hx hb dX6_hashesSlot_26 rfl hl (by decide) rfl (fun ls hl => ?_)
    exact P_27 _ _ _ _ _ _ _ hW (lv_sub hl [1, 2, 0] rfl) hf
  have P_2 : ∀ (n2 : Nat) (x1 : Int32) (x2 : Int32) (mm : gM) (H : Heap) (locs : List Loc) (ls : Array Slot), Wd g mm s H locs → lv_has ls 3 [(0, .ref (ad g 21 0)), (1, .int x1), (2, .int x2)] → lX6_hashesSlot_2 n2 x1 x2 mm = some mZ → W p l e rm_X6_hashesSlot s m args below meth c H locs 0 0 (MQ below (CV g mZ) args s 0 0 (gA g)) (F0 m 2 ls []) := by
    intro n2
    induction n2 with
    | zero => intro x1 x2 mm H locs ls hW hl hf; exact (no_some hf).elim
    | succ n2 ih_2 =>
      intro x1 x2 mm H locs ls hW hl hf
      rw [lX6_hashesSlot_2_s] at hf
      refine lv_iload_n hx hb dX6_hashesSlot_2 rfl (lv_at hl 2 rfl) ?_
      refine lv_bipush (v := 10) hx hb dX6_hashesSlot_3 (by decide) ?_
      refine lv_icmp_ge (tgt := 25) hx hb dX6_hashesSlot_5 (by decide) (fun c7 => ?_) (fun c7 => ?_)
      · replace hf := ite_t hf c7
        exact P_25 _ _ _ _ _ hW (lv_sub hl [0, 1] rfl) hf
      · replace hf := ite_f hf c7
        refine lv_aload_n hx hb dX6_hashesSlot_8 rfl (lv_at hl 0 rfl) ?_
        refine lv_aload_n hx hb dX6_hashesSlot_9 rfl (lv_at hl 0 rfl) ?_
        refine lv_iload_n hx hb dX6_hashesSlot_10 rfl (lv_at hl 1 rfl) ?_
        refine lv_iload_n hx hb dX6_hashesSlot_11 rfl (lv_at hl 2 rfl) ?_
        obtain ⟨r2, e1, hf⟩ := bnd_ex hf
        refine k_i X hW (k_V (As := [.int x1, .int x2]) (rest := [.ref (ad g 21 0)]) X hW hml hl.1 (c_X6_tellsSlot l g hDW  _ _ mm _ e1) (r_recv X hW 21 0 (by decide) (by decide) rfl rfl) ⟨mw_1195, kw_X6_tellsSlot⟩ ⟨⟨rfl, rfl⟩, ko_X6_tellsSlot, ⟨Nat.le_of_ble_eq_true rfl, Nat.le_of_ble_eq_true rfl⟩⟩ rfl rfl (Nat.le_of_ble_eq_true rfl) dX6_hashesSlot_12 ⟨Nat.le_of_ble_eq_true rfl, Nat.le_of_ble_eq_true rfl⟩) (fun H locs hW => ?_)
        refine lv_i2l hx hb dX6_hashesSlot_15 (v := r2.toInt64) rfl ?_
        obtain ⟨m6, e4, hf⟩ := bnd_ex hf
        refine k_v X hW (k_V (As := [.long r2.toInt64]) (rest := []) X hW hml hl.1 (c_X6_hashes l g hDW  _ mm _ e4) (r_recv X hW 21 0 (by decide) (by decide) rfl rfl) ⟨mw_1300, kw_X6_hashes⟩ ⟨⟨rfl, rfl⟩, ko_X6_hashes, ⟨Nat.le_of_ble_eq_true rfl, Nat.le_of_ble_eq_true rfl⟩⟩ rfl rfl (Nat.le_of_ble_eq_true rfl) dX6_hashesSlot_16 ⟨Nat.le_of_ble_eq_true rfl, Nat.le_of_ble_eq_true rfl⟩) (fun H locs hW => ?_)
        refine lv_iinc (v := x2 + 1) (lv' := [(2, .int (x2 + 1)), (0, .ref (ad g 21 0)), (1, .int x1)]) hx hb dX6_hashesSlot_19 hl (k := 2) rfl rfl (by decide) rfl (fun ls hl => ?_)
        refine lv_goto (tgt := 2) hx hb dX6_hashesSlot_22 (by decide) ?_
        exact ih_2 _ _ _ _ _ _ hW (lv_sub hl [1, 2, 0] rfl) hf
  unfold fX6_hashesSlot at hf
  refine lv_iconst (v := 0) hx hb dX6_hashesSlot_0 (by decide) ?_
  refine lv_istore_n (lv' := [(2, .int 0), (0, .ref (ad g 21 0)), (1, .int x1)]) hx hb dX6_hashesSlot_1 rfl hl (by decide) rfl (fun ls hl => ?_)
  exact P_2 _ _ _ _ _ _ _ hW (lv_sub hl [1, 2, 0] rfl) hf
set_option maxRecDepth 100000 in
set_option maxHeartbeats 4000000 in
theorem c_Jxe99ae_isNaN_b9ae7 (l : Launch) (g : gG) (hDW : DW g) (x0 : UInt64) (mm : gM) (r0 : Int32) (hf : fJxe99ae_isNaN_b9ae7 x0 = some r0) : Met l yJxe99ae_isNaN_b9ae7 (Cond.code yJxe99ae_isNaN_b9ae7 cJxe99ae_isNaN_b9ae7 2 (some .boolean) :: ALLW) rm_Jxe99ae_isNaN_b9ae7 (CPre g mm [.double x0]) (CI g mm r0) 0 0 (gA g) := by
  refine Met.ofW (cc := cJxe99ae_isNaN_b9ae7) (maxL := 2) (ret := (some .boolean)) (by decide) rfl ?_
  intro p e s m args below meth c s₁ B hml hv
  obtain ⟨ha, hFx, hP0, hlo⟩ := hv
  have X : Cx g p s m args c meth RJxe99ae cJxe99ae_isNaN_b9ae7 := Cx_of hDW hFx hlo B
  have hx := X.1
  have hb := X.2.1
  have hr := B.returns
  have hlocks := X.2.2.2.2.2.2.2
  have hW : Wd g mm s s.heap [] := ⟨hP0, va_S.rf⟩
  rw [ha, lg_entry_eq]
  have hl := lv_entry ([.double x0] : List Value) (n := 2) (Nat.le_of_ble_eq_true rfl)
  generalize (lg_sl ([.double x0] : List Value) ++ List.replicate (2 - (lg_sl ([.double x0] : List Value)).length) Slot.unset).toArray = ls at hl ⊢
  have hl : lv_has ls 2 [(0, .double x0)] := hl
  rw [← ha]
  show W p l e rm_Jxe99ae_isNaN_b9ae7 s m args below meth c s.heap [] 0 0 (MQ below (CI g mm r0) args s 0 0 (gA g)) (F0 m 0 ls [])
  unfold fJxe99ae_isNaN_b9ae7 at hf
  refine lv_dload_n hx hb dJxe99ae_isNaN_b9ae7_0 rfl (lv_at hl 0 rfl) ?_
  refine lv_dload_n hx hb dJxe99ae_isNaN_b9ae7_1 rfl (lv_at hl 0 rfl) ?_
  refine lv_dcmp hx hb dJxe99ae_isNaN_b9ae7_2 ?_
  refine lv_if_eq (tgt := 10) hx hb dJxe99ae_isNaN_b9ae7_3 (by decide) (fun c3 => ?_) (fun c3 => ?_)
  · replace hf := ite_t hf c3
    refine lv_iconst (v := 0) hx hb dJxe99ae_isNaN_b9ae7_10 (by decide) ?_
    obtain ⟨b1, hf⟩ := chk_ex hf
    exact e_z X hr hW (bz_n b1) (someinj hf) dJxe99ae_isNaN_b9ae7_11
  · replace hf := ite_f hf c3
    refine lv_iconst (v := 1) hx hb dJxe99ae_isNaN_b9ae7_6 (by decide) ?_
    refine lv_goto (tgt := 11) hx hb dJxe99ae_isNaN_b9ae7_7 (by decide) ?_
    obtain ⟨b2, hf⟩ := chk_ex hf
    exact e_z X hr hW (bz_n b2) (someinj hf) dJxe99ae_isNaN_b9ae7_11
set_option maxRecDepth 100000 in
set_option maxHeartbeats 4000000 in
theorem c_Jxe99ae_doubleToLongBits_ccdee (l : Launch) (g : gG) (hDW : DW g) (x0 : UInt64) (mm : gM) (r0 : Int64) (hf : fJxe99ae_doubleToLongBits_ccdee x0 = some r0) : Met l yJxe99ae_doubleToLongBits_ccdee (Cond.code yJxe99ae_doubleToLongBits_ccdee cJxe99ae_doubleToLongBits_ccdee 2 (some .long) :: ALLW) rm_Jxe99ae_doubleToLongBits_ccdee (CPre g mm [.double x0]) (CL g mm r0) 0 0 (gA g) := by
  refine Met.ofW (cc := cJxe99ae_doubleToLongBits_ccdee) (maxL := 2) (ret := (some .long)) (by decide) rfl ?_
  intro p e s m args below meth c s₁ B hml hv
  obtain ⟨ha, hFx, hP0, hlo⟩ := hv
  have X : Cx g p s m args c meth RJxe99ae cJxe99ae_doubleToLongBits_ccdee := Cx_of hDW hFx hlo B
  have hx := X.1
  have hb := X.2.1
  have hr := B.returns
  have hlocks := X.2.2.2.2.2.2.2
  have hW : Wd g mm s s.heap [] := ⟨hP0, va_S.rf⟩
  rw [ha, lg_entry_eq]
  have hl := lv_entry ([.double x0] : List Value) (n := 2) (Nat.le_of_ble_eq_true rfl)
  generalize (lg_sl ([.double x0] : List Value) ++ List.replicate (2 - (lg_sl ([.double x0] : List Value)).length) Slot.unset).toArray = ls at hl ⊢
  have hl : lv_has ls 2 [(0, .double x0)] := hl
  rw [← ha]
  show W p l e rm_Jxe99ae_doubleToLongBits_ccdee s m args below meth c s.heap [] 0 0 (MQ below (CL g mm r0) args s 0 0 (gA g)) (F0 m 0 ls [])
  unfold fJxe99ae_doubleToLongBits_ccdee at hf
  refine lv_dload_n hx hb dJxe99ae_doubleToLongBits_ccdee_0 rfl (lv_at hl 0 rfl) ?_
  obtain ⟨r2, e1, hf⟩ := bnd_ex hf
  refine k_i X hW (k_S (As := [.double x0]) (rest := []) X hW hml hl.1 (c_Jxe99ae_isNaN_b9ae7 l g hDW  _ mm _ e1) ⟨mw_1312, kw_Jxe99ae_isNaN_b9ae7⟩ ⟨⟨rfl, rfl⟩, ko_Jxe99ae_isNaN_b9ae7, ⟨Nat.le_of_ble_eq_true rfl, Nat.le_of_ble_eq_true rfl⟩⟩ rfl rfl (Nat.le_of_ble_eq_true rfl) dJxe99ae_doubleToLongBits_ccdee_1 ⟨Nat.le_of_ble_eq_true rfl, Nat.le_of_ble_eq_true rfl⟩) (fun H locs hW => ?_)
  refine lv_if_ne (tgt := 12) hx hb dJxe99ae_doubleToLongBits_ccdee_4 (by decide) (fun c4 => ?_) (fun c4 => ?_)
  · replace hf := ite_f hf c4
    refine lv_ldc2 hx hb X.2.2.1 (X.2.2.2.1 _ mw_1318) dJxe99ae_doubleToLongBits_ccdee_12 ?_
    exact e_l X hr hW (someinj hf) dJxe99ae_doubleToLongBits_ccdee_15
  · replace hf := ite_t hf c4
    refine lv_dload_n hx hb dJxe99ae_doubleToLongBits_ccdee_7 rfl (lv_at hl 0 rfl) ?_
    refine r_d2l X hml hl.1 mw_1315 kw_d2l (Nat.le_of_ble_eq_true rfl) (Nat.le_of_ble_eq_true (by decide +kernel)) dJxe99ae_doubleToLongBits_ccdee_8 ?_
    exact e_l X hr hW (someinj hf) dJxe99ae_doubleToLongBits_ccdee_11
set_option maxRecDepth 100000 in
set_option maxHeartbeats 4000000 in
theorem c_Jxf58ca_isNaN_12338 (l : Launch) (g : gG) (hDW : DW g) (x0 : UInt32) (mm : gM) (r0 : Int32) (hf : fJxf58ca_isNaN_12338 x0 = some r0) : Met l yJxf58ca_isNaN_12338 (Cond.code yJxf58ca_isNaN_12338 cJxf58ca_isNaN_12338 1 (some .boolean) :: ALLW) rm_Jxf58ca_isNaN_12338 (CPre g mm [.float x0]) (CI g mm r0) 0 0 (gA g) := by
  refine Met_ofWF (cc := cJxf58ca_isNaN_12338) (maxL := 1) (ret := (some .boolean)) (by decide +kernel) rfl ?_
  intro p e s m args below meth c s₁ B hml hv
  obtain ⟨ha, hFx, hP0, hlo⟩ := hv
  have X : Cx g p s m args c meth RJxf58ca cJxf58ca_isNaN_12338 := Cx_of hDW hFx hlo B
  have hx := X.1
  have hb := X.2.1
  have hr := B.returns
  have hlocks := X.2.2.2.2.2.2.2
  have hW : Wd g mm s s.heap [] := ⟨hP0, va_S.rf⟩
  rw [ha, lg_entry_eq]
  have hl := lv_entry ([.float x0] : List Value) (n := 1) (Nat.le_of_ble_eq_true rfl)
  generalize (lg_sl ([.float x0] : List Value) ++ List.replicate (1 - (lg_sl ([.float x0] : List Value)).length) Slot.unset).toArray = ls at hl ⊢
  have hl : lv_has ls 1 [(0, .float x0)] := hl
  rw [← ha]
  show W p l e rm_Jxf58ca_isNaN_12338 s m args below meth c s.heap [] 0 0 (MQ below (CI g mm r0) args s 0 0 (gA g)) (F0 m 0 ls [])
  unfold fJxf58ca_isNaN_12338 at hf
  refine lv_fload_n hx hb dJxf58ca_isNaN_12338_0 rfl (lv_at hl 0 rfl) ?_
  refine lv_fload_n hx hb dJxf58ca_isNaN_12338_1 rfl (lv_at hl 0 rfl) ?_
  refine lv_fcmp hx hb dJxf58ca_isNaN_12338_2 ?_
  refine lv_if_eq (tgt := 10) hx hb dJxf58ca_isNaN_12338_3 (by decide) (fun c3 => ?_) (fun c3 => ?_)
  · replace hf := ite_t hf c3
    refine lv_iconst (v := 0) hx hb dJxf58ca_isNaN_12338_10 (by decide) ?_
    obtain ⟨b1, hf⟩ := chk_ex hf
    exact e_z X hr hW (bz_n b1) (someinj hf) dJxf58ca_isNaN_12338_11
  · replace hf := ite_f hf c3
    refine lv_iconst (v := 1) hx hb dJxf58ca_isNaN_12338_6 (by decide) ?_
    refine lv_goto (tgt := 11) hx hb dJxf58ca_isNaN_12338_7 (by decide) ?_
    obtain ⟨b2, hf⟩ := chk_ex hf
    exact e_z X hr hW (bz_n b2) (someinj hf) dJxf58ca_isNaN_12338_11
set_option maxRecDepth 100000 in
set_option maxHeartbeats 4000000 in
theorem c_Jxf58ca_floatToIntBits_5c35a (l : Launch) (g : gG) (hDW : DW g) (x0 : UInt32) (mm : gM) (r0 : Int32) (hf : fJxf58ca_floatToIntBits_5c35a x0 = some r0) : Met l yJxf58ca_floatToIntBits_5c35a (Cond.code yJxf58ca_floatToIntBits_5c35a cJxf58ca_floatToIntBits_5c35a 1 (some .int) :: ALLW) rm_Jxf58ca_floatToIntBits_5c35a (CPre g mm [.float x0]) (CI g mm r0) 0 0 (gA g) := by
  refine Met_ofWF (cc := cJxf58ca_floatToIntBits_5c35a) (maxL := 1) (ret := (some .int)) (by decide +kernel) rfl ?_
  intro p e s m args below meth c s₁ B hml hv
  obtain ⟨ha, hFx, hP0, hlo⟩ := hv
  have X : Cx g p s m args c meth RJxf58ca cJxf58ca_floatToIntBits_5c35a := Cx_of hDW hFx hlo B
  have hx := X.1
  have hb := X.2.1
  have hr := B.returns
  have hlocks := X.2.2.2.2.2.2.2
  have hW : Wd g mm s s.heap [] := ⟨hP0, va_S.rf⟩
  rw [ha, lg_entry_eq]
  have hl := lv_entry ([.float x0] : List Value) (n := 1) (Nat.le_of_ble_eq_true rfl)
  generalize (lg_sl ([.float x0] : List Value) ++ List.replicate (1 - (lg_sl ([.float x0] : List Value)).length) Slot.unset).toArray = ls at hl ⊢
  have hl : lv_has ls 1 [(0, .float x0)] := hl
  rw [← ha]
  show W p l e rm_Jxf58ca_floatToIntBits_5c35a s m args below meth c s.heap [] 0 0 (MQ below (CI g mm r0) args s 0 0 (gA g)) (F0 m 0 ls [])
  unfold fJxf58ca_floatToIntBits_5c35a at hf
  refine lv_fload_n hx hb dJxf58ca_floatToIntBits_5c35a_0 rfl (lv_at hl 0 rfl) ?_
  obtain ⟨r2, e1, hf⟩ := bnd_ex hf
  refine k_i X hW (k_S (As := [.float x0]) (rest := []) X hW hml hl.1 (c_Jxf58ca_isNaN_12338 l g hDW  _ mm _ e1) ⟨mw_1322, kw_Jxf58ca_isNaN_12338⟩ ⟨⟨rfl, rfl⟩, ko_Jxf58ca_isNaN_12338, ⟨Nat.le_of_ble_eq_true rfl, Nat.le_of_ble_eq_true rfl⟩⟩ rfl rfl (Nat.le_of_ble_eq_true rfl) dJxf58ca_floatToIntBits_5c35a_1 ⟨Nat.le_of_ble_eq_true rfl, Nat.le_of_ble_eq_true rfl⟩) (fun H locs hW => ?_)
  refine lv_if_ne (tgt := 12) hx hb dJxf58ca_floatToIntBits_5c35a_4 (by decide) (fun c4 => ?_) (fun c4 => ?_)
  · replace hf := ite_f hf c4
    refine lv_ldc hx hb X.2.2.1 (X.2.2.2.1 _ mw_1328) dJxf58ca_floatToIntBits_5c35a_12 ?_
    exact e_i X hr hW (someinj hf) dJxf58ca_floatToIntBits_5c35a_14
  · replace hf := ite_t hf c4
    refine lv_fload_n hx hb dJxf58ca_floatToIntBits_5c35a_7 rfl (lv_at hl 0 rfl) ?_
    refine r_f2i X hml hl.1 mw_1325 kw_f2i (Nat.le_of_ble_eq_true rfl) (Nat.le_of_ble_eq_true (by decide +kernel)) dJxf58ca_floatToIntBits_5c35a_8 ?_
    exact e_i X hr hW (someinj hf) dJxf58ca_floatToIntBits_5c35a_11
set_option maxRecDepth 100000 in
set_option maxHeartbeats 4000000 in
theorem c_X6_digest (l : Launch) (g : gG) (hDW : DW g) (mm : gM) (r0 : Int64) (mZ : gM) (hf : fX6_digest mm = some (r0, mZ)) : Met l yX6_digest (Cond.code yX6_digest cX6_digest 2 (some .long) :: ALLW) rm_X6_digest (CPre g mm [.ref (ad g 21 0)]) (CL g mZ r0) 0 0 (gA g) := by
  refine Met.ofW (cc := cX6_digest) (maxL := 2) (ret := (some .long)) (by decide) rfl ?_
  intro p e s m args below meth c s₁ B hml hv
  obtain ⟨ha, hFx, hP0, hlo⟩ := hv
  have X : Cx g p s m args c meth RX6 cX6_digest := Cx_of hDW hFx hlo B
  have hx := X.1
  have hb := X.2.1
  have hr := B.returns
  have hlocks := X.2.2.2.2.2.2.2
  have hW : Wd g mm s s.heap [] := ⟨hP0, va_S.rf⟩
  rw [ha, lg_entry_eq]
  have hl := lv_entry ([.ref (ad g 21 0)] : List Value) (n := 2) (Nat.le_of_ble_eq_true rfl)
  generalize (lg_sl ([.ref (ad g 21 0)] : List Value) ++ List.replicate (2 - (lg_sl ([.ref (ad g 21 0)] : List Value)).length) Slot.unset).toArray = ls at hl ⊢
  have hl : lv_has ls 2 [(0, .ref (ad g 21 0))] := hl
  rw [← ha]
  show W p l e rm_X6_digest s m args below meth c s.heap [] 0 0 (MQ below (CL g mZ r0) args s 0 0 (gA g)) (F0 m 0 ls [])
  have P_168 : ∀ (n168 : Nat) (x1 : Int32) (mm : gM) (H : Heap) (locs : List Loc) (ls : Array Slot), Wd g mm s H locs → lv_has ls 2 [(0, .ref (ad g 21 0)), (1, .int x1)] → lX6_digest_168 n168 x1 mm = some (r0, mZ) → W p l e rm_X6_digest s m args below meth c H locs 0 0 (MQ below (CL g mZ r0) args s 0 0 (gA g)) (F0 m 168 ls []) := by
    intro n168
    induction n168 with
    | zero => intro x1 mm H locs ls hW hl hf; exact (no_some hf).elim
    | succ n168 ih_168 =>
      intro x1 mm H locs ls hW hl hf
      rw [lX6_digest_168_s] at hf
      refine lv_iload_n hx hb dX6_digest_168 rfl (lv_at hl 1 rfl) ?_
      refine lv_aload_n hx hb dX6_digest_169 rfl (lv_at hl 0 rfl) ?_
      refine gf_21_7 X hW (by decide) mw_954 dX6_digest_170 ?_
      refine lv_icmp_ge (tgt := 193) hx hb dX6_digest_173 (by decide) (fun c66 => ?_) (fun c66 => ?_)
      · replace hf := ite_t hf c66
        refine lv_aload_n hx hb dX6_digest_193 rfl (lv_at hl 0 rfl) ?_
        refine gf_21_18 X hW (by decide) mw_965 dX6_digest_194 ?_
        obtain ⟨hf, hm⟩ := prinj hf
        replace hW := hW.same hm.symm
        exact e_l X hr hW (hf) dX6_digest_197
      · replace hf := ite_f hf c66
        refine lv_aload_n hx hb dX6_digest_176 rfl (lv_at hl 0 rfl) ?_
        refine lv_aload_n hx hb dX6_digest_177 rfl (lv_at hl 0 rfl) ?_
        refine gf_21_6 X hW (by decide) mw_953 dX6_digest_178 ?_
        refine lv_iload_n hx hb dX6_digest_181 rfl (lv_at hl 1 rfl) ?_
        obtain ⟨b62, hf⟩ := chk_ex hf
        refine r_iald X hW 26 0 (by decide) (by decide) rfl b62 dX6_digest_182 ?_
        refine lv_i2l hx hb dX6_digest_183 (v := (gi mm 26 0 x1.toNatClampNeg).toInt64) rfl ?_
        obtain ⟨m65, e63, hf⟩ := bnd_ex hf
        refine k_v X hW (k_V (As := [.long ((gi mm 26 0 x1.toNatClampNeg).toInt64)]) (rest := []) X hW hml hl.1 (c_X6_hashes l g hDW  _ mm _ e63) (r_recv X hW 21 0 (by decide) (by decide) rfl rfl) ⟨mw_1300, kw_X6_hashes⟩ ⟨⟨rfl, rfl⟩, ko_X6_hashes, ⟨Nat.le_of_ble_eq_true rfl, Nat.le_of_ble_eq_true rfl⟩⟩ rfl rfl (Nat.le_of_ble_eq_true rfl) dX6_digest_184 ⟨Nat.le_of_ble_eq_true rfl, Nat.le_of_ble_eq_true rfl⟩) (fun H locs hW => ?_)
        refine lv_iinc (v := x1 + 1) (lv' := [(1, .int (x1 + 1)), (0, .ref (ad g 21 0))]) hx hb dX6_digest_187 hl (k := 1) rfl rfl (by decide) rfl (fun ls hl => ?_)
        refine lv_goto (tgt := 168) hx hb dX6_digest_190 (by decide) ?_
        exact ih_168 _ _ _ _ _ hW (lv_sub hl [1, 0] rfl) hf
  have P_154 : ∀ (s1 : Int64) (mm : gM) (H : Heap) (locs : List Loc) (ls : Array Slot), Wd g mm s H locs → lv_has ls 2 [(0, .ref (ad g 21 0))] → jX6_digest_154 s1 mm = some (r0, mZ) → W p l e rm_X6_digest s m args below meth c H locs 0 0 (MQ below (CL g mZ r0) args s 0 0 (gA g)) (F0 m 154 ls [.long s1, .ref (ad g 21 0)]) := by
    intro s1 mm H locs ls hW hl hf
    unfold jX6_digest_154 at hf
    obtain ⟨m58, e56, hf⟩ := bnd_ex hf
    refine k_v X hW (k_V (As := [.long s1]) (rest := []) X hW hml hl.1 (c_X6_hashes l g hDW  _ mm _ e56) (r_recv X hW 21 0 (by decide) (by decide) rfl rfl) ⟨mw_1300, kw_X6_hashes⟩ ⟨⟨rfl, rfl⟩, ko_X6_hashes, ⟨Nat.le_of_ble_eq_true rfl, Nat.le_of_ble_eq_true rfl⟩⟩ rfl rfl (Nat.le_of_ble_eq_true rfl) dX6_digest_154 ⟨Nat.le_of_ble_eq_true rfl, Nat.le_of_ble_eq_true rfl⟩) (fun H locs hW => ?_)
    refine lv_aload_n hx hb dX6_digest_157 rfl (lv_at hl 0 rfl) ?_
    refine lv_aload_n hx hb dX6_digest_158 rfl (lv_at hl 0 rfl) ?_
    refine gf_21_7 X hW (by decide) mw_954 dX6_digest_159 ?_
    refine lv_i2l hx hb dX6_digest_162 (v := (gi m58 21 0 7).toInt64) rfl ?_
    obtain ⟨m61, e59, hf⟩ := bnd_ex hf
    refine k_v X hW (k_V (As := [.long ((gi m58 21 0 7).toInt64)]) (rest := []) X hW hml hl.1 (c_X6_hashes l g hDW  _ m58 _ e59) (r_recv X hW 21 0 (by decide) (by decide) rfl rfl) ⟨mw_1300, kw_X6_hashes⟩ ⟨⟨rfl, rfl⟩, ko_X6_hashes, ⟨Nat.le_of_ble_eq_true rfl, Nat.le_of_ble_eq_true rfl⟩⟩ rfl rfl (Nat.le_of_ble_eq_true rfl) dX6_digest_163 ⟨Nat.le_of_ble_eq_true rfl, Nat.le_of_ble_eq_true rfl⟩) (fun H locs hW => ?_)
    refine lv_iconst (v := 0) hx hb dX6_digest_166 (by decide) ?_
    refine lv_istore_n (lv' := [(1, .int 0), (0, .ref (ad g 21 0))]) hx hb dX6_digest_167 rfl hl (by decide) rfl (fun ls hl => ?_)
    exact P_168 _ _ _ _ _ _ hW (lv_sub hl [1, 0] rfl) hf
  have P_136 : ∀ (s1 : Int64) (mm : gM) (H : Heap) (locs : List Loc) (ls : Array Slot), Wd g mm s H locs → lv_has ls 2 [(0, .ref (ad g 21 0))] → jX6_digest_136 s1 mm = some (r0, mZ) → W p l e rm_X6_digest s m args below meth c H locs 0 0 (MQ below (CL g mZ r0) args s 0 0 (gA g)) (F0 m 136 ls [.long s1, .ref (ad g 21 0)]) := by
    intro s1 mm H locs ls hW hl hf
    unfold jX6_digest_136 at hf
    obtain ⟨m53, e51, hf⟩ := bnd_ex hf
    refine k_v X hW (k_V (As := [.long s1]) (rest := []) X hW hml hl.1 (c_X6_hashes l g hDW  _ mm _ e51) (r_recv X hW 21 0 (by decide) (by decide) rfl rfl) ⟨mw_1300, kw_X6_hashes⟩ ⟨⟨rfl, rfl⟩, ko_X6_hashes, ⟨Nat.le_of_ble_eq_true rfl, Nat.le_of_ble_eq_true rfl⟩⟩ rfl rfl (Nat.le_of_ble_eq_true rfl) dX6_digest_136 ⟨Nat.le_of_ble_eq_true rfl, Nat.le_of_ble_eq_true rfl⟩) (fun H locs hW => ?_)
    refine lv_aload_n hx hb dX6_digest_139 rfl (lv_at hl 0 rfl) ?_
    refine lv_aload_n hx hb dX6_digest_140 rfl (lv_at hl 0 rfl) ?_
    refine gf_21_5 X hW (by decide) mw_952 dX6_digest_141 ?_
    refine lv_iconst (v := 1) hx hb dX6_digest_144 (by decide) ?_
    obtain ⟨b54, hf⟩ := chk_ex hf
    refine r_zald X hW 25 0 (by decide) (by decide) rfl b54 dX6_digest_145 ?_
    refine lv_if_eq (tgt := 153) hx hb dX6_digest_146 (by decide) (fun c55 => ?_) (fun c55 => ?_)
    · replace hf := ite_t hf c55
      refine lv_lconst (v := 0) hx hb dX6_digest_153 (by decide) ?_
      exact P_154 _ _ _ _ _ hW (lv_sub hl [0] rfl) hf
    · replace hf := ite_f hf c55
      refine lv_lconst (v := 1) hx hb dX6_digest_149 (by decide) ?_
      refine lv_goto (tgt := 154) hx hb dX6_digest_150 (by decide) ?_
      exact P_154 _ _ _ _ _ hW (lv_sub hl [0] rfl) hf
  have P_83 : ∀ (mm : gM) (H : Heap) (locs : List Loc) (ls : Array Slot), Wd g mm s H locs → lv_has ls 2 [(0, .ref (ad g 21 0))] → jX6_digest_83 mm = some (r0, mZ) → W p l e rm_X6_digest s m args below meth c H locs 0 0 (MQ below (CL g mZ r0) args s 0 0 (gA g)) (F0 m 83 ls []) := by
    intro mm H locs ls hW hl hf
    unfold jX6_digest_83 at hf
    refine lv_aload_n hx hb dX6_digest_83 rfl (lv_at hl 0 rfl) ?_
    refine lv_aload_n hx hb dX6_digest_84 rfl (lv_at hl 0 rfl) ?_
    refine lv_iconst (v := 0) hx hb dX6_digest_85 (by decide) ?_
    refine lv_iconst (v := 5) hx hb dX6_digest_86 (by decide) ?_
    obtain ⟨r23, m24, e22, hf⟩ := bn2_ex hf
    refine k_i X hW (k_V (As := [.int 0, .int 5]) (rest := [.ref (ad g 21 0)]) X hW hml hl.1 (c_X6_timed l g hDW  _ _ mm _ _ e22) (r_recv X hW 21 0 (by decide) (by decide) rfl rfl) ⟨mw_1259, kw_X6_timed⟩ ⟨⟨rfl, rfl⟩, ko_X6_timed, ⟨Nat.le_of_ble_eq_true rfl, Nat.le_of_ble_eq_true rfl⟩⟩ rfl rfl (Nat.le_of_ble_eq_true rfl) dX6_digest_87 ⟨Nat.le_of_ble_eq_true rfl, Nat.le_of_ble_eq_true rfl⟩) (fun H locs hW => ?_)
    refine lv_i2l hx hb dX6_digest_90 (v := r23.toInt64) rfl ?_
    obtain ⟨m27, e25, hf⟩ := bnd_ex hf
    refine k_v X hW (k_V (As := [.long r23.toInt64]) (rest := []) X hW hml hl.1 (c_X6_hashes l g hDW  _ m24 _ e25) (r_recv X hW 21 0 (by decide) (by decide) rfl rfl) ⟨mw_1300, kw_X6_hashes⟩ ⟨⟨rfl, rfl⟩, ko_X6_hashes, ⟨Nat.le_of_ble_eq_true rfl, Nat.le_of_ble_eq_true rfl⟩⟩ rfl rfl (Nat.le_of_ble_eq_true rfl) dX6_digest_91 ⟨Nat.le_of_ble_eq_true rfl, Nat.le_of_ble_eq_true rfl⟩) (fun H locs hW => ?_)
    refine lv_aload_n hx hb dX6_digest_94 rfl (lv_at hl 0 rfl) ?_
    obtain ⟨m30, e28, hf⟩ := bnd_ex hf
    refine k_v X hW (k_V (As := []) (rest := []) X hW hml hl.1 (c_X6_views l g hDW   m27 _ e28) (r_recv X hW 21 0 (by decide) (by decide) rfl rfl) ⟨mw_1160, kw_X6_views⟩ ⟨⟨rfl, rfl⟩, ko_X6_views, ⟨Nat.le_of_ble_eq_true rfl, Nat.le_of_ble_eq_true rfl⟩⟩ rfl rfl (Nat.le_of_ble_eq_true rfl) dX6_digest_95 ⟨Nat.le_of_ble_eq_true rfl, Nat.le_of_ble_eq_true rfl⟩) (fun H locs hW => ?_)
    refine lv_aload_n hx hb dX6_digest_98 rfl (lv_at hl 0 rfl) ?_
    refine lv_aload_n hx hb dX6_digest_99 rfl (lv_at hl 0 rfl) ?_
    obtain ⟨r32, e31, hf⟩ := bnd_ex hf
    refine k_d X hW (k_V (As := []) (rest := [.ref (ad g 21 0)]) X hW hml hl.1 (c_X6_lit l g hDW   m30 _ e31) (r_recv X hW 21 0 (by decide) (by decide) rfl rfl) ⟨mw_1283, kw_X6_lit⟩ ⟨⟨rfl, rfl⟩, ko_X6_lit, ⟨Nat.le_of_ble_eq_true rfl, Nat.le_of_ble_eq_true rfl⟩⟩ rfl rfl (Nat.le_of_ble_eq_true rfl) dX6_digest_100 ⟨Nat.le_of_ble_eq_true rfl, Nat.le_of_ble_eq_true rfl⟩) (fun H locs hW => ?_)
    obtain ⟨r35, e34, hf⟩ := bnd_ex hf
    refine k_l X hW (k_S (As := [.double r32]) (rest := [.ref (ad g 21 0)]) X hW hml hl.1 (c_Jxe99ae_doubleToLongBits_ccdee l g hDW  _ m30 _ e34) ⟨mw_1309, kw_Jxe99ae_doubleToLongBits_ccdee⟩ ⟨⟨rfl, rfl⟩, ko_Jxe99ae_doubleToLongBits_ccdee, ⟨Nat.le_of_ble_eq_true rfl, Nat.le_of_ble_eq_true rfl⟩⟩ rfl rfl (Nat.le_of_ble_eq_true rfl) dX6_digest_103 ⟨Nat.le_of_ble_eq_true rfl, Nat.le_of_ble_eq_true rfl⟩) (fun H locs hW => ?_)
    obtain ⟨m39, e37, hf⟩ := bnd_ex hf
    refine k_v X hW (k_V (As := [.long r35]) (rest := []) X hW hml hl.1 (c_X6_hashes l g hDW  _ m30 _ e37) (r_recv X hW 21 0 (by decide) (by decide) rfl rfl) ⟨mw_1300, kw_X6_hashes⟩ ⟨⟨rfl, rfl⟩, ko_X6_hashes, ⟨Nat.le_of_ble_eq_true rfl, Nat.le_of_ble_eq_true rfl⟩⟩ rfl rfl (Nat.le_of_ble_eq_true rfl) dX6_digest_106 ⟨Nat.le_of_ble_eq_true rfl, Nat.le_of_ble_eq_true rfl⟩) (fun H locs hW => ?_)
    refine lv_aload_n hx hb dX6_digest_109 rfl (lv_at hl 0 rfl) ?_
    refine lv_aload_n hx hb dX6_digest_110 rfl (lv_at hl 0 rfl) ?_
    obtain ⟨r41, e40, hf⟩ := bnd_ex hf
    refine k_f X hW (k_V (As := []) (rest := [.ref (ad g 21 0)]) X hW hml hl.1 (c_X6_mean l g hDW   m39 _ e40) (r_recv X hW 21 0 (by decide) (by decide) rfl rfl) ⟨mw_1291, kw_X6_mean⟩ ⟨⟨rfl, rfl⟩, ko_X6_mean, ⟨Nat.le_of_ble_eq_true rfl, Nat.le_of_ble_eq_true rfl⟩⟩ rfl rfl (Nat.le_of_ble_eq_true rfl) dX6_digest_111 ⟨Nat.le_of_ble_eq_true rfl, Nat.le_of_ble_eq_true rfl⟩) (fun H locs hW => ?_)
    obtain ⟨r44, e43, hf⟩ := bnd_ex hf
    refine k_i X hW (k_S (As := [.float r41]) (rest := [.ref (ad g 21 0)]) X hW hml hl.1 (c_Jxf58ca_floatToIntBits_5c35a l g hDW  _ m39 _ e43) ⟨mw_1319, kw_Jxf58ca_floatToIntBits_5c35a⟩ ⟨⟨rfl, rfl⟩, ko_Jxf58ca_floatToIntBits_5c35a, ⟨Nat.le_of_ble_eq_true rfl, Nat.le_of_ble_eq_true rfl⟩⟩ rfl rfl (Nat.le_of_ble_eq_true rfl) dX6_digest_114 ⟨Nat.le_of_ble_eq_true rfl, Nat.le_of_ble_eq_true rfl⟩) (fun H locs hW => ?_)
    refine lv_i2l hx hb dX6_digest_117 (v := r44.toInt64) rfl ?_
    obtain ⟨m48, e46, hf⟩ := bnd_ex hf
    refine k_v X hW (k_V (As := [.long r44.toInt64]) (rest := []) X hW hml hl.1 (c_X6_hashes l g hDW  _ m39 _ e46) (r_recv X hW 21 0 (by decide) (by decide) rfl rfl) ⟨mw_1300, kw_X6_hashes⟩ ⟨⟨rfl, rfl⟩, ko_X6_hashes, ⟨Nat.le_of_ble_eq_true rfl, Nat.le_of_ble_eq_true rfl⟩⟩ rfl rfl (Nat.le_of_ble_eq_true rfl) dX6_digest_118 ⟨Nat.le_of_ble_eq_true rfl, Nat.le_of_ble_eq_true rfl⟩) (fun H locs hW => ?_)
    refine lv_aload_n hx hb dX6_digest_121 rfl (lv_at hl 0 rfl) ?_
    refine lv_aload_n hx hb dX6_digest_122 rfl (lv_at hl 0 rfl) ?_
    refine gf_21_5 X hW (by decide) mw_952 dX6_digest_123 ?_
    refine lv_iconst (v := 0) hx hb dX6_digest_126 (by decide) ?_
    obtain ⟨b49, hf⟩ := chk_ex hf
    refine r_zald X hW 25 0 (by decide) (by decide) rfl b49 dX6_digest_127 ?_
    refine lv_if_eq (tgt := 135) hx hb dX6_digest_128 (by decide) (fun c50 => ?_) (fun c50 => ?_)
    · replace hf := ite_t hf c50
      refine lv_lconst (v := 0) hx hb dX6_digest_135 (by decide) ?_
      exact P_136 _ _ _ _ _ hW (lv_sub hl [0] rfl) hf
    · replace hf := ite_f hf c50
      refine lv_lconst (v := 1) hx hb dX6_digest_131 (by decide) ?_
      refine lv_goto (tgt := 136) hx hb dX6_digest_132 (by decide) ?_
      exact P_136 _ _ _ _ _ hW (lv_sub hl [0] rfl) hf
  have P_66 : ∀ (n66 : Nat) (x1 : Int32) (mm : gM) (H : Heap) (locs : List Loc) (ls : Array Slot), Wd g mm s H locs → lv_has ls 2 [(0, .ref (ad g 21 0)), (1, .int x1)] → lX6_digest_66 n66 x1 mm = some (r0, mZ) → W p l e rm_X6_digest s m args below meth c H locs 0 0 (MQ below (CL g mZ r0) args s 0 0 (gA g)) (F0 m 66 ls []) := by
    intro n66
    induction n66 with
    | zero => intro x1 mm H locs ls hW hl hf; exact (no_some hf).elim
    | succ n66 ih_66 =>
      intro x1 mm H locs ls hW hl hf
      rw [lX6_digest_66_s] at hf
      refine lv_iload_n hx hb dX6_digest_66 rfl (lv_at hl 1 rfl) ?_
      refine lv_bipush (v := 6) hx hb dX6_digest_67 (by decide) ?_
      refine lv_icmp_ge (tgt := 83) hx hb dX6_digest_69 (by decide) (fun c21 => ?_) (fun c21 => ?_)
      · replace hf := ite_t hf c21
        exact P_83 _ _ _ _ hW (lv_sub hl [0] rfl) hf
      · replace hf := ite_f hf c21
        refine lv_aload_n hx hb dX6_digest_72 rfl (lv_at hl 0 rfl) ?_
        refine lv_iload_n hx hb dX6_digest_73 rfl (lv_at hl 1 rfl) ?_
        obtain ⟨m20, e18, hf⟩ := bnd_ex hf
        refine k_v X hW (k_V (As := [.int x1]) (rest := []) X hW hml hl.1 (c_X6_hashesSlot l g hDW  _ mm _ e18) (r_recv X hW 21 0 (by decide) (by decide) rfl rfl) ⟨mw_1305, kw_X6_hashesSlot⟩ ⟨⟨rfl, rfl⟩, ko_X6_hashesSlot, ⟨Nat.le_of_ble_eq_true rfl, Nat.le_of_ble_eq_true rfl⟩⟩ rfl rfl (Nat.le_of_ble_eq_true rfl) dX6_digest_74 ⟨Nat.le_of_ble_eq_true rfl, Nat.le_of_ble_eq_true rfl⟩) (fun H locs hW => ?_)
        refine lv_iinc (v := x1 + 1) (lv' := [(1, .int (x1 + 1)), (0, .ref (ad g 21 0))]) hx hb dX6_digest_77 hl (k := 1) rfl rfl (by decide) rfl (fun ls hl => ?_)
        refine lv_goto (tgt := 66) hx hb dX6_digest_80 (by decide) ?_
        exact ih_66 _ _ _ _ _ hW (lv_sub hl [1, 0] rfl) hf
  have P_64 : ∀ (mm : gM) (H : Heap) (locs : List Loc) (ls : Array Slot), Wd g mm s H locs → lv_has ls 2 [(0, .ref (ad g 21 0))] → jX6_digest_64 mm = some (r0, mZ) → W p l e rm_X6_digest s m args below meth c H locs 0 0 (MQ below (CL g mZ r0) args s 0 0 (gA g)) (F0 m 64 ls []) := by
    intro mm H locs ls hW hl hf
    unfold jX6_digest_64 at hf
    refine lv_iconst (v := 0) hx hb dX6_digest_64 (by decide) ?_
    refine lv_istore_n (lv' := [(1, .int 0), (0, .ref (ad g 21 0))]) hx hb dX6_digest_65 rfl hl (by decide) rfl (fun ls hl => ?_)
    exact P_66 _ _ _ _ _ _ hW (lv_sub hl [1, 0] rfl) hf
  have P_42 : ∀ (n42 : Nat) (x1 : Int32) (mm : gM) (H : Heap) (locs : List Loc) (ls : Array Slot), Wd g mm s H locs → lv_has ls 2 [(0, .ref (ad g 21 0)), (1, .int x1)] → lX6_digest_42 n42 x1 mm = some (r0, mZ) → W p l e rm_X6_digest s m args below meth c H locs 0 0 (MQ below (CL g mZ r0) args s 0 0 (gA g)) (F0 m 42 ls []) := by
    intro n42
    induction n42 with
    | zero => intro x1 mm H locs ls hW hl hf; exact (no_some hf).elim
    | succ n42 ih_42 =>
      intro x1 mm H locs ls hW hl hf
      rw [lX6_digest_42_s] at hf
      refine lv_iload_n hx hb dX6_digest_42 rfl (lv_at hl 1 rfl) ?_
      refine lv_iconst (v := 4) hx hb dX6_digest_43 (by decide) ?_
      refine lv_icmp_ge (tgt := 64) hx hb dX6_digest_44 (by decide) (fun c17 => ?_) (fun c17 => ?_)
      · replace hf := ite_t hf c17
        exact P_64 _ _ _ _ hW (lv_sub hl [0] rfl) hf
      · replace hf := ite_f hf c17
        refine lv_aload_n hx hb dX6_digest_47 rfl (lv_at hl 0 rfl) ?_
        refine lv_aload_n hx hb dX6_digest_48 rfl (lv_at hl 0 rfl) ?_
        refine gf_21_1 X hW (by decide) mw_948 dX6_digest_49 ?_
        refine lv_iload_n hx hb dX6_digest_52 rfl (lv_at hl 1 rfl) ?_
        obtain ⟨b13, hf⟩ := chk_ex hf
        refine r_iald X hW 22 0 (by decide) (by decide) rfl b13 dX6_digest_53 ?_
        refine lv_i2l hx hb dX6_digest_54 (v := (gi mm 22 0 x1.toNatClampNeg).toInt64) rfl ?_
        obtain ⟨m16, e14, hf⟩ := bnd_ex hf
        refine k_v X hW (k_V (As := [.long ((gi mm 22 0 x1.toNatClampNeg).toInt64)]) (rest := []) X hW hml hl.1 (c_X6_hashes l g hDW  _ mm _ e14) (r_recv X hW 21 0 (by decide) (by decide) rfl rfl) ⟨mw_1300, kw_X6_hashes⟩ ⟨⟨rfl, rfl⟩, ko_X6_hashes, ⟨Nat.le_of_ble_eq_true rfl, Nat.le_of_ble_eq_true rfl⟩⟩ rfl rfl (Nat.le_of_ble_eq_true rfl) dX6_digest_55 ⟨Nat.le_of_ble_eq_true rfl, Nat.le_of_ble_eq_true rfl⟩) (fun H locs hW => ?_)
        refine lv_iinc (v := x1 + 1) (lv' := [(1, .int (x1 + 1)), (0, .ref (ad g 21 0))]) hx hb dX6_digest_58 hl (k := 1) rfl rfl (by decide) rfl (fun ls hl => ?_)
        refine lv_goto (tgt := 42) hx hb dX6_digest_61 (by decide) ?_
        exact ih_42 _ _ _ _ _ hW (lv_sub hl [1, 0] rfl) hf
  have P_40 : ∀ (mm : gM) (H : Heap) (locs : List Loc) (ls : Array Slot), Wd g mm s H locs → lv_has ls 2 [(0, .ref (ad g 21 0))] → jX6_digest_40 mm = some (r0, mZ) → W p l e rm_X6_digest s m args below meth c H locs 0 0 (MQ below (CL g mZ r0) args s 0 0 (gA g)) (F0 m 40 ls []) := by
    intro mm H locs ls hW hl hf
    unfold jX6_digest_40 at hf
    refine lv_iconst (v := 0) hx hb dX6_digest_40 (by decide) ?_
    refine lv_istore_n (lv' := [(1, .int 0), (0, .ref (ad g 21 0))]) hx hb dX6_digest_41 rfl hl (by decide) rfl (fun ls hl => ?_)
    exact P_42 _ _ _ _ _ _ hW (lv_sub hl [1, 0] rfl) hf
  have P_18 : ∀ (n18 : Nat) (x1 : Int32) (mm : gM) (H : Heap) (locs : List Loc) (ls : Array Slot), Wd g mm s H locs → lv_has ls 2 [(0, .ref (ad g 21 0)), (1, .int x1)] → lX6_digest_18 n18 x1 mm = some (r0, mZ) → W p l e rm_X6_digest s m args below meth c H locs 0 0 (MQ below (CL g mZ r0) args s 0 0 (gA g)) (F0 m 18 ls []) := by
    intro n18
    induction n18 with
    | zero => intro x1 mm H locs ls hW hl hf; exact (no_some hf).elim
    | succ n18 ih_18 =>
      intro x1 mm H locs ls hW hl hf
      rw [lX6_digest_18_s] at hf
      refine lv_iload_n hx hb dX6_digest_18 rfl (lv_at hl 1 rfl) ?_
      refine lv_bipush (v := 13) hx hb dX6_digest_19 (by decide) ?_
      refine lv_icmp_ge (tgt := 40) hx hb dX6_digest_21 (by decide) (fun c12 => ?_) (fun c12 => ?_)
      · replace hf := ite_t hf c12
        exact P_40 _ _ _ _ hW (lv_sub hl [0] rfl) hf
      · replace hf := ite_f hf c12
        refine lv_aload_n hx hb dX6_digest_24 rfl (lv_at hl 0 rfl) ?_
        refine lv_aload_n hx hb dX6_digest_25 rfl (lv_at hl 0 rfl) ?_
        refine lv_iload_n hx hb dX6_digest_26 rfl (lv_at hl 1 rfl) ?_
        obtain ⟨r7, e6, hf⟩ := bnd_ex hf
        refine k_i X hW (k_V (As := [.int x1]) (rest := [.ref (ad g 21 0)]) X hW hml hl.1 (c_X6_tellsCount l g hDW  _ mm _ e6) (r_recv X hW 21 0 (by decide) (by decide) rfl rfl) ⟨mw_1219, kw_X6_tellsCount⟩ ⟨⟨rfl, rfl⟩, ko_X6_tellsCount, ⟨Nat.le_of_ble_eq_true rfl, Nat.le_of_ble_eq_true rfl⟩⟩ rfl rfl (Nat.le_of_ble_eq_true rfl) dX6_digest_27 ⟨Nat.le_of_ble_eq_true rfl, Nat.le_of_ble_eq_true rfl⟩) (fun H locs hW => ?_)
        refine lv_i2l hx hb dX6_digest_30 (v := r7.toInt64) rfl ?_
        obtain ⟨m11, e9, hf⟩ := bnd_ex hf
        refine k_v X hW (k_V (As := [.long r7.toInt64]) (rest := []) X hW hml hl.1 (c_X6_hashes l g hDW  _ mm _ e9) (r_recv X hW 21 0 (by decide) (by decide) rfl rfl) ⟨mw_1300, kw_X6_hashes⟩ ⟨⟨rfl, rfl⟩, ko_X6_hashes, ⟨Nat.le_of_ble_eq_true rfl, Nat.le_of_ble_eq_true rfl⟩⟩ rfl rfl (Nat.le_of_ble_eq_true rfl) dX6_digest_31 ⟨Nat.le_of_ble_eq_true rfl, Nat.le_of_ble_eq_true rfl⟩) (fun H locs hW => ?_)
        refine lv_iinc (v := x1 + 1) (lv' := [(1, .int (x1 + 1)), (0, .ref (ad g 21 0))]) hx hb dX6_digest_34 hl (k := 1) rfl rfl (by decide) rfl (fun ls hl => ?_)
        refine lv_goto (tgt := 18) hx hb dX6_digest_37 (by decide) ?_
        exact ih_18 _ _ _ _ _ hW (lv_sub hl [1, 0] rfl) hf
  unfold fX6_digest at hf
  refine lv_aload_n hx hb dX6_digest_0 rfl (lv_at hl 0 rfl) ?_
  refine lv_iconst (v := 0) hx hb dX6_digest_1 (by decide) ?_
  obtain ⟨m1, ex, hf⟩ := wth_ex hf
  refine pf_21_0 X hW (by decide) mw_947 dX6_digest_2 (fun H locs hW => ?_)
  replace hW := hW.same ex
  clear ex
  refine lv_aload_n hx hb dX6_digest_5 rfl (lv_at hl 0 rfl) ?_
  refine lv_ldc2 hx hb X.2.2.1 (X.2.2.2.1 _ mw_1299) dX6_digest_6 ?_
  obtain ⟨m2, ex, hf⟩ := wth_ex hf
  refine pf_21_18 X hW (by decide) mw_965 dX6_digest_9 (fun H locs hW => ?_)
  replace hW := hW.same ex
  clear ex
  refine lv_aload_n hx hb dX6_digest_12 rfl (lv_at hl 0 rfl) ?_
  obtain ⟨m5, e3, hf⟩ := bnd_ex hf
  refine k_v X hW (k_V (As := []) (rest := []) X hW hml hl.1 (c_X6_views l g hDW   m2 _ e3) (r_recv X hW 21 0 (by decide) (by decide) rfl rfl) ⟨mw_1160, kw_X6_views⟩ ⟨⟨rfl, rfl⟩, ko_X6_views, ⟨Nat.le_of_ble_eq_true rfl, Nat.le_of_ble_eq_true rfl⟩⟩ rfl rfl (Nat.le_of_ble_eq_true rfl) dX6_digest_13 ⟨Nat.le_of_ble_eq_true rfl, Nat.le_of_ble_eq_true rfl⟩) (fun H locs hW => ?_)
  refine lv_iconst (v := 0) hx hb dX6_digest_16 (by decide) ?_
  refine lv_istore_n (lv' := [(1, .int 0), (0, .ref (ad g 21 0))]) hx hb dX6_digest_17 rfl hl (by decide) rfl (fun ls hl => ?_)
  exact P_18 _ _ _ _ _ _ hW (lv_sub hl [1, 0] rfl) hf
