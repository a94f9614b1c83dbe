set_option maxRecDepth 100000 in
set_option maxHeartbeats 4000000 in
theorem c_X2_litTicks (l : Launch) (g : gG) (hDW : DW g) (t0 : Nat) (ht0 : t0 < 10) (mm : gM) (r0 : Int32) (hf : fX2_litTicks t0 mm = some r0) : Met l yX2_litTicks (Cond.code yX2_litTicks cX2_litTicks 3 (some .int) :: ALLW) rm_X2_litTicks (CPre g mm [.ref (ad g 0 t0)]) (CI g mm r0) 0 0 (gA g) := by
  refine Met.ofW (cc := cX2_litTicks) (maxL := 3) (ret := (some .int)) (by decide) rfl ?_
  intro p e s m args below meth c s₁ B hml hv
  obtain ⟨ha, hFx, hP0, hlo⟩ := hv
  have X : Cx g p s m args c meth RX2 cX2_litTicks := Cx_of hDW hFx hlo B
  have hx := X.1
  have hb := X.2.1
  have hr := B.returns
  have hlocks := X.2.2.2.2.2.2.2
  have hW : Wd g mm s s.heap [] := ⟨hP0, va_S.rf⟩
  rw [ha, lg_entry_eq]
  have hl := lv_entry ([.ref (ad g 0 t0)] : List Value) (n := 3) (Nat.le_of_ble_eq_true rfl)
  generalize (lg_sl ([.ref (ad g 0 t0)] : List Value) ++ List.replicate (3 - (lg_sl ([.ref (ad g 0 t0)] : List Value)).length) Slot.unset).toArray = ls at hl ⊢
  have hl : lv_has ls 3 [(0, .ref (ad g 0 t0))] := hl
  rw [← ha]
  show W p l e rm_X2_litTicks s m args below meth c s.heap [] 0 0 (MQ below (CI g mm r0) args s 0 0 (gA g)) (F0 m 0 ls [])
  have P_4 : ∀ (n4 : Nat) (x1 : Int32) (x2 : Int32) (H : Heap) (locs : List Loc) (ls : Array Slot), Wd g mm s H locs → lv_has ls 3 [(0, .ref (ad g 0 t0)), (1, .int x1), (2, .int x2)] → lX2_litTicks_4 t0 mm n4 x1 x2 = some r0 → W p l e rm_X2_litTicks s m args below meth c H locs 0 0 (MQ below (CI g mm r0) args s 0 0 (gA g)) (F0 m 4 ls []) := by
    intro n4
    induction n4 with
    | zero => intro x1 x2 H locs ls hW hl hf; exact (no_some hf).elim
    | succ n4 ih_4 =>
      intro x1 x2 H locs ls hW hl hf
      rw [lX2_litTicks_4_s] at hf
      refine lv_iload_n hx hb dX2_litTicks_4 rfl (lv_at hl 2 rfl) ?_
      refine lv_bipush (v := 6) hx hb dX2_litTicks_5 (by decide) ?_
      refine lv_icmp_ge (tgt := 25) hx hb dX2_litTicks_7 (by decide) (fun c3 => ?_) (fun c3 => ?_)
      · replace hf := ite_t hf c3
        refine lv_iload_n hx hb dX2_litTicks_25 rfl (lv_at hl 1 rfl) ?_
        exact e_i X hr hW (someinj hf) dX2_litTicks_26
      · replace hf := ite_f hf c3
        refine lv_iload_n hx hb dX2_litTicks_10 rfl (lv_at hl 1 rfl) ?_
        refine lv_aload_n hx hb dX2_litTicks_11 rfl (lv_at hl 0 rfl) ?_
        refine gf_0_2 X hW ht0 mw_118 dX2_litTicks_12 ?_
        refine lv_iload_n hx hb dX2_litTicks_15 rfl (lv_at hl 2 rfl) ?_
        obtain ⟨b1, hf⟩ := chk_ex hf
        refine r_iald X hW 3 t0 (by decide) ht0 rfl b1 dX2_litTicks_16 ?_
        refine lv_iadd hx hb dX2_litTicks_17 ?_
        obtain ⟨v2, ex, hf⟩ := wth_ex hf
        refine lv_nm ex ?_
        clear ex
        refine lv_istore_n (lv' := [(1, .int v2), (0, .ref (ad g 0 t0)), (2, .int x2)]) hx hb dX2_litTicks_18 rfl hl (by decide) rfl (fun ls hl => ?_)
        refine lv_iinc (v := x2 + 1) (lv' := [(2, .int (x2 + 1)), (1, .int v2), (0, .ref (ad g 0 t0))]) hx hb dX2_litTicks_19 hl (k := 2) rfl rfl (by decide) rfl (fun ls hl => ?_)
        refine lv_goto (tgt := 4) hx hb dX2_litTicks_22 (by decide) ?_
        exact ih_4 _ _ _ _ _ hW (lv_sub hl [2, 1, 0] rfl) hf
  unfold fX2_litTicks at hf
  refine lv_iconst (v := 0) hx hb dX2_litTicks_0 (by decide) ?_
  refine lv_istore_n (lv' := [(1, .int 0), (0, .ref (ad g 0 t0))]) hx hb dX2_litTicks_1 rfl hl (by decide) rfl (fun ls hl => ?_)
  refine lv_iconst (v := 0) hx hb dX2_litTicks_2 (by decide) ?_
  refine lv_istore_n (lv' := [(2, .int 0), (1, .int 0), (0, .ref (ad g 0 t0))]) hx hb dX2_litTicks_3 rfl hl (by decide) rfl (fun ls hl => ?_)
  exact P_4 _ _ _ _ _ _ hW (lv_sub hl [2, 1, 0] rfl) hf
set_option maxRecDepth 100000 in
set_option maxHeartbeats 4000000 in
theorem c_X2_litIn (l : Launch) (g : gG) (hDW : DW g) (t0 : Nat) (ht0 : t0 < 10) (x1 : Int32) (mm : gM) (r0 : Int32) (hf : fX2_litIn t0 x1 mm = some r0) : Met l yX2_litIn (Cond.code yX2_litIn cX2_litIn 4 (some .int) :: ALLW) rm_X2_litIn (CPre g mm [.ref (ad g 0 t0), .int x1]) (CI g mm r0) 0 0 (gA g) := by
  refine Met.ofW (cc := cX2_litIn) (maxL := 4) (ret := (some .int)) (by decide) rfl ?_
  intro p e s m args below meth c s₁ B hml hv
  obtain ⟨ha, hFx, hP0, hlo⟩ := hv
  have X : Cx g p s m args c meth RX2 cX2_litIn := Cx_of hDW hFx hlo B
  have hx := X.1
  have hb := X.2.1
  have hr := B.returns
  have hlocks := X.2.2.2.2.2.2.2
  have hW : Wd g mm s s.heap [] := ⟨hP0, va_S.rf⟩
  rw [ha, lg_entry_eq]
  have hl := lv_entry ([.ref (ad g 0 t0), .int x1] : List Value) (n := 4) (Nat.le_of_ble_eq_true rfl)
  generalize (lg_sl ([.ref (ad g 0 t0), .int x1] : List Value) ++ List.replicate (4 - (lg_sl ([.ref (ad g 0 t0), .int x1] : List Value)).length) Slot.unset).toArray = ls at hl ⊢
  have hl : lv_has ls 4 [(0, .ref (ad g 0 t0)), (1, .int x1)] := hl
  rw [← ha]
  show W p l e rm_X2_litIn s m args below meth c s.heap [] 0 0 (MQ below (CI g mm r0) args s 0 0 (gA g)) (F0 m 0 ls [])
  have P_23 : ∀ (x1 : Int32) (x2 : Int32) (x3 : Int32) (H : Heap) (locs : List Loc) (ls : Array Slot), Wd g mm s H locs → lv_has ls 4 [(0, .ref (ad g 0 t0)), (1, .int x1), (2, .int x2), (3, .int x3)] → jX2_litIn_23 t0 mm x1 x2 x3 = some r0 → W p l e rm_X2_litIn s m args below meth c H locs 0 0 (MQ below (CI g mm r0) args s 0 0 (gA g)) (F0 m 23 ls []) := by
    intro x1 x2 x3 H locs ls hW hl hf
    unfold jX2_litIn_23 at hf
    refine lv_iload_n hx hb dX2_litIn_23 rfl (lv_at hl 1 rfl) ?_
    refine lv_iload_n hx hb dX2_litIn_24 rfl (lv_at hl 2 rfl) ?_
    refine lv_aload_n hx hb dX2_litIn_25 rfl (lv_at hl 0 rfl) ?_
    refine gf_0_2 X hW ht0 mw_118 dX2_litIn_26 ?_
    refine lv_iload_n hx hb dX2_litIn_29 rfl (lv_at hl 3 rfl) ?_
    obtain ⟨b6, hf⟩ := chk_ex hf
    refine r_iald X hW 3 t0 (by decide) ht0 rfl b6 dX2_litIn_30 ?_
    refine lv_isub hx hb dX2_litIn_31 ?_
    refine lv_icmp_lt (tgt := 39) hx hb dX2_litIn_32 (by decide) (fun c7 => ?_) (fun c7 => ?_)
    · replace hf := ite_t hf c7
      refine lv_iconst (v := -1) hx hb dX2_litIn_39 (by decide) ?_
      exact e_i X hr hW (someinj hf) dX2_litIn_40
    · replace hf := ite_f hf c7
      refine lv_iload_n hx hb dX2_litIn_35 rfl (lv_at hl 3 rfl) ?_
      refine lv_goto (tgt := 40) hx hb dX2_litIn_36 (by decide) ?_
      exact e_i X hr hW (someinj hf) dX2_litIn_40
  have P_4 : ∀ (n4 : Nat) (x1 : Int32) (x2 : Int32) (x3 : Int32) (H : Heap) (locs : List Loc) (ls : Array Slot), Wd g mm s H locs → lv_has ls 4 [(0, .ref (ad g 0 t0)), (1, .int x1), (2, .int x2), (3, .int x3)] → lX2_litIn_4 t0 mm n4 x1 x2 x3 = some r0 → W p l e rm_X2_litIn s m args below meth c H locs 0 0 (MQ below (CI g mm r0) args s 0 0 (gA g)) (F0 m 4 ls []) := by
    intro n4
    induction n4 with
    | zero => intro x1 x2 x3 H locs ls hW hl hf; exact (no_some hf).elim
    | succ n4 ih_4 =>
      intro x1 x2 x3 H locs ls hW hl hf
      rw [lX2_litIn_4_s] at hf
      refine lv_iload_n hx hb dX2_litIn_4 rfl (lv_at hl 3 rfl) ?_
      refine lv_bipush (v := 6) hx hb dX2_litIn_5 (by decide) ?_
      refine lv_icmp_ge (tgt := 47) hx hb dX2_litIn_7 (by decide) (fun c5 => ?_) (fun c5 => ?_)
      · replace hf := ite_t hf c5
        refine lv_iconst (v := -1) hx hb dX2_litIn_47 (by decide) ?_
        exact e_i X hr hW (someinj hf) dX2_litIn_48
      · replace hf := ite_f hf c5
        refine lv_iload_n hx hb dX2_litIn_10 rfl (lv_at hl 2 rfl) ?_
        refine lv_aload_n hx hb dX2_litIn_11 rfl (lv_at hl 0 rfl) ?_
        refine lv_iload_n hx hb dX2_litIn_12 rfl (lv_at hl 3 rfl) ?_
        obtain ⟨r2, e1, hf⟩ := bnd_ex hf
        refine k_i X hW (k_V (As := [.int x3]) (rest := [.int x2]) X hW hml hl.1 (c_X2_ticksOf l g hDW t0 ht0 _ mm _ e1) (r_recv X hW 0 t0 (by decide) ht0 rfl rfl) ⟨mw_401, kw_X2_ticksOf⟩ ⟨⟨rfl, rfl⟩, ko_X2_ticksOf, ⟨Nat.le_of_ble_eq_true rfl, Nat.le_of_ble_eq_true rfl⟩⟩ rfl rfl (Nat.le_of_ble_eq_true rfl) dX2_litIn_13 ⟨Nat.le_of_ble_eq_true rfl, Nat.le_of_ble_eq_true rfl⟩) (fun H locs hW => ?_)
        refine lv_iadd hx hb dX2_litIn_16 ?_
        refine lv_istore_n (lv' := [(2, .int (x2 + r2)), (0, .ref (ad g 0 t0)), (1, .int x1), (3, .int x3)]) hx hb dX2_litIn_17 rfl hl (by decide) rfl (fun ls hl => ?_)
        refine lv_iload_n hx hb dX2_litIn_18 rfl (lv_at hl 2 rfl) ?_
        refine lv_iload_n hx hb dX2_litIn_19 rfl (lv_at hl 0 rfl) ?_
        refine lv_icmp_ge (tgt := 41) hx hb dX2_litIn_20 (by decide) (fun c4 => ?_) (fun c4 => ?_)
        · replace hf := ite_t hf c4
          refine lv_iinc (v := x3 + 1) (lv' := [(3, .int (x3 + 1)), (2, .int (x2 + r2)), (0, .ref (ad g 0 t0)), (1, .int x1)]) hx hb dX2_litIn_41 hl (k := 3) rfl rfl (by decide) rfl (fun ls hl => ?_)
          refine lv_goto (tgt := 4) hx hb dX2_litIn_44 (by decide) ?_
          exact ih_4 _ _ _ _ _ _ hW (lv_sub hl [2, 3, 1, 0] rfl) hf
        · replace hf := ite_f hf c4
          exact P_23 _ _ _ _ _ _ hW (lv_sub hl [1, 2, 0, 3] rfl) hf
  unfold fX2_litIn at hf
  refine lv_iconst (v := 0) hx hb dX2_litIn_0 (by decide) ?_
  refine lv_istore_n (lv' := [(2, .int 0), (0, .ref (ad g 0 t0)), (1, .int x1)]) hx hb dX2_litIn_1 rfl hl (by decide) rfl (fun ls hl => ?_)
  refine lv_iconst (v := 0) hx hb dX2_litIn_2 (by decide) ?_
  refine lv_istore_n (lv' := [(3, .int 0), (2, .int 0), (0, .ref (ad g 0 t0)), (1, .int x1)]) hx hb dX2_litIn_3 rfl hl (by decide) rfl (fun ls hl => ?_)
  exact P_4 _ _ _ _ _ _ _ hW (lv_sub hl [2, 3, 1, 0] rfl) hf
set_option maxRecDepth 100000 in
set_option maxHeartbeats 4000000 in
theorem c_X3_put (l : Launch) (g : gG) (hDW : DW g) (x1 : Int32) (mm : gM) (mZ : gM) (hf : fX3_put x1 mm = some mZ) : Met l yX3_put (Cond.code yX3_put cX3_put 2 none :: ALLW) rm_X3_put (CPre g mm [.ref (ad g 16 0), .int x1]) (CV g mZ) 0 0 (gA g) := by
  refine Met.ofW (cc := cX3_put) (maxL := 2) (ret := none) (by decide) rfl ?_
  intro p e s m args below meth c s₁ B hml hv
  obtain ⟨ha, hFx, hP0, hlo⟩ := hv
  have X : Cx g p s m args c meth RX3 cX3_put := Cx_of hDW hFx hlo B
  have hx := X.1
  have hb := X.2.1
  have hr := B.returns
  have hlocks := X.2.2.2.2.2.2.2
  have hW : Wd g mm s s.heap [] := ⟨hP0, va_S.rf⟩
  rw [ha, lg_entry_eq]
  have hl := lv_entry ([.ref (ad g 16 0), .int x1] : List Value) (n := 2) (Nat.le_of_ble_eq_true rfl)
  generalize (lg_sl ([.ref (ad g 16 0), .int x1] : List Value) ++ List.replicate (2 - (lg_sl ([.ref (ad g 16 0), .int x1] : List Value)).length) Slot.unset).toArray = ls at hl ⊢
  have hl : lv_has ls 2 [(0, .ref (ad g 16 0)), (1, .int x1)] := hl
  rw [← ha]
  show W p l e rm_X3_put s m args below meth c s.heap [] 0 0 (MQ below (CV g mZ) args s 0 0 (gA g)) (F0 m 0 ls [])
  unfold fX3_put at hf
  refine lv_aload_n hx hb dX3_put_0 rfl (lv_at hl 0 rfl) ?_
  refine gf_16_1 X hW (by decide) mw_240 dX3_put_1 ?_
  refine lv_if_lt (tgt := 36) hx hb dX3_put_4 (by decide) (fun c5 => ?_) (fun c5 => ?_)
  · replace hf := ite_t hf c5
    replace hW := hW.same (someinj hf).symm
    exact e_v X hr hW dX3_put_36
  · replace hf := ite_f hf c5
    refine lv_aload_n hx hb dX3_put_7 rfl (lv_at hl 0 rfl) ?_
    refine gf_16_1 X hW (by decide) mw_240 dX3_put_8 ?_
    refine lv_bipush (v := 12) hx hb dX3_put_11 (by decide) ?_
    refine lv_icmp_ge (tgt := 36) hx hb dX3_put_13 (by decide) (fun c4 => ?_) (fun c4 => ?_)
    · replace hf := ite_t hf c4
      replace hW := hW.same (someinj hf).symm
      exact e_v X hr hW dX3_put_36
    · replace hf := ite_f hf c4
      refine lv_aload_n hx hb dX3_put_16 rfl (lv_at hl 0 rfl) ?_
      refine gf_16_0 X hW (by decide) mw_238 dX3_put_17 ?_
      refine lv_aload_n hx hb dX3_put_20 rfl (lv_at hl 0 rfl) ?_
      refine gf_16_1 X hW (by decide) mw_240 dX3_put_21 ?_
      refine lv_iload_n hx hb dX3_put_24 rfl (lv_at hl 1 rfl) ?_
      obtain ⟨b1, hf⟩ := chk_ex hf
      obtain ⟨m2, ex, hf⟩ := wth_ex hf
      refine r_cast X hW 17 0 (by decide) (by decide) (fun _ => rfl) b1 dX3_put_25 (fun H locs hW => ?_)
      replace hW := hW.same ex
      clear ex
      refine lv_aload_n hx hb dX3_put_26 rfl (lv_at hl 0 rfl) ?_
      refine lv_dup hx hb dX3_put_27 rfl ?_
      refine gf_16_1 X hW (by decide) mw_240 dX3_put_28 ?_
      refine lv_iconst (v := 1) hx hb dX3_put_31 (by decide) ?_
      refine lv_iadd hx hb dX3_put_32 ?_
      obtain ⟨m3, ex, hf⟩ := wth_ex hf
      refine pf_16_1 X hW (by decide) mw_240 dX3_put_33 (fun H locs hW => ?_)
      replace hW := hW.same ex
      clear ex
      replace hW := hW.same (someinj hf).symm
      exact e_v X hr hW dX3_put_36
set_option maxRecDepth 100000 in
set_option maxHeartbeats 4000000 in
theorem c_J0_isLatin1_aae02 (l : Launch) (g : gG) (hDW : DW g) (q0 : Nat) (hq0 : q0 = 4 ∨ q0 = 6) (mm : gM) (r0 : Int32) (hf : fJ0_isLatin1_aae02 q0 = some r0) : Met l yJ0_isLatin1_aae02 (Cond.code yJ0_isLatin1_aae02 cJ0_isLatin1_aae02 1 (some .boolean) :: ALLW) rm_J0_isLatin1_aae02 (CPre g mm [.ref (sx g q0)]) (CI g mm r0) 0 0 (gA g) := by
  refine Met.ofW (cc := cJ0_isLatin1_aae02) (maxL := 1) (ret := (some .boolean)) (by decide) rfl ?_
  intro p e s m args below meth c s₁ B hml hv
  obtain ⟨ha, hFx, hP0, hlo⟩ := hv
  have X : Cx g p s m args c meth RJ0 cJ0_isLatin1_aae02 := Cx_of hDW hFx hlo B
  have hx := X.1
  have hb := X.2.1
  have hr := B.returns
  have hlocks := X.2.2.2.2.2.2.2
  have hW : Wd g mm s s.heap [] := ⟨hP0, va_S.rf⟩
  rw [ha, lg_entry_eq]
  have hl := lv_entry ([.ref (sx g q0)] : List Value) (n := 1) (Nat.le_of_ble_eq_true rfl)
  generalize (lg_sl ([.ref (sx g q0)] : List Value) ++ List.replicate (1 - (lg_sl ([.ref (sx g q0)] : List Value)).length) Slot.unset).toArray = ls at hl ⊢
  have hl : lv_has ls 1 [(0, .ref (sx g q0))] := hl
  rw [← ha]
  show W p l e rm_J0_isLatin1_aae02 s m args below meth c s.heap [] 0 0 (MQ below (CI g mm r0) args s 0 0 (gA g)) (F0 m 0 ls [])
  have P_17 : ∀ (H : Heap) (locs : List Loc) (ls : Array Slot), Wd g mm s H locs → lv_has ls 1 [] → jJ0_isLatin1_aae02_17 q0 = some r0 → W p l e rm_J0_isLatin1_aae02 s m args below meth c H locs 0 0 (MQ below (CI g mm r0) args s 0 0 (gA g)) (F0 m 17 ls []) := by
    intro  H locs ls hW hl hf
    unfold jJ0_isLatin1_aae02_17 at hf
    refine lv_iconst (v := 0) hx hb dJ0_isLatin1_aae02_17 (by decide) ?_
    obtain ⟨b4, hf⟩ := chk_ex hf
    exact e_z X hr hW (bz_n b4) (someinj hf) dJ0_isLatin1_aae02_18
  unfold fJ0_isLatin1_aae02 at hf
  refine r_compact X hW mw_310 dJ0_isLatin1_aae02_0 ?_
  refine lv_if_eq (tgt := 17) hx hb dJ0_isLatin1_aae02_3 (by decide) (fun c3 => ?_) (fun c3 => ?_)
  · replace hf := ite_t hf c3
    exact P_17  _ _ _ hW (lv_sub hl [] rfl) hf
  · replace hf := ite_f hf c3
    refine lv_aload_n hx hb dJ0_isLatin1_aae02_6 rfl (lv_at hl 0 rfl) ?_
    refine r_coder X hW hq0 mw_1331 dJ0_isLatin1_aae02_7 ?_
    refine lv_if_ne (tgt := 17) hx hb dJ0_isLatin1_aae02_10 (by decide) (fun c2 => ?_) (fun c2 => ?_)
    · replace hf := ite_f hf c2
      exact P_17  _ _ _ hW (lv_sub hl [] rfl) hf
    · replace hf := ite_t hf c2
      refine lv_iconst (v := 1) hx hb dJ0_isLatin1_aae02_13 (by decide) ?_
      refine lv_goto (tgt := 18) hx hb dJ0_isLatin1_aae02_14 (by decide) ?_
      obtain ⟨b1, hf⟩ := chk_ex hf
      exact e_z X hr hW (bz_n b1) (someinj hf) dJ0_isLatin1_aae02_18
set_option maxRecDepth 100000 in
set_option maxHeartbeats 4000000 in
theorem c_J0_coder_7d493 (l : Launch) (g : gG) (hDW : DW g) (q0 : Nat) (hq0 : q0 = 4 ∨ q0 = 6) (mm : gM) (r0 : Int32) (hf : fJ0_coder_7d493 q0 = some r0) : Met l yJ0_coder_7d493 (Cond.code yJ0_coder_7d493 cJ0_coder_7d493 1 (some .byte) :: ALLW) rm_J0_coder_7d493 (CPre g mm [.ref (sx g q0)]) (CI g mm r0) 0 0 (gA g) := by
  refine Met.ofW (cc := cJ0_coder_7d493) (maxL := 1) (ret := (some .byte)) (by decide) rfl ?_
  intro p e s m args below meth c s₁ B hml hv
  obtain ⟨ha, hFx, hP0, hlo⟩ := hv
  have X : Cx g p s m args c meth RJ0 cJ0_coder_7d493 := Cx_of hDW hFx hlo B
  have hx := X.1
  have hb := X.2.1
  have hr := B.returns
  have hlocks := X.2.2.2.2.2.2.2
  have hW : Wd g mm s s.heap [] := ⟨hP0, va_S.rf⟩
  rw [ha, lg_entry_eq]
  have hl := lv_entry ([.ref (sx g q0)] : List Value) (n := 1) (Nat.le_of_ble_eq_true rfl)
  generalize (lg_sl ([.ref (sx g q0)] : List Value) ++ List.replicate (1 - (lg_sl ([.ref (sx g q0)] : List Value)).length) Slot.unset).toArray = ls at hl ⊢
  have hl : lv_has ls 1 [(0, .ref (sx g q0))] := hl
  rw [← ha]
  show W p l e rm_J0_coder_7d493 s m args below meth c s.heap [] 0 0 (MQ below (CI g mm r0) args s 0 0 (gA g)) (F0 m 0 ls [])
  unfold fJ0_coder_7d493 at hf
  refine r_compact X hW mw_310 dJ0_coder_7d493_0 ?_
  refine lv_if_eq (tgt := 13) hx hb dJ0_coder_7d493_3 (by decide) (fun c3 => ?_) (fun c3 => ?_)
  · replace hf := ite_t hf c3
    refine lv_iconst (v := 1) hx hb dJ0_coder_7d493_13 (by decide) ?_
    obtain ⟨b1, hf⟩ := chk_ex hf
    exact e_z X hr hW (bb_n b1) (someinj hf) dJ0_coder_7d493_14
  · replace hf := ite_f hf c3
    refine lv_aload_n hx hb dJ0_coder_7d493_6 rfl (lv_at hl 0 rfl) ?_
    refine r_coder X hW hq0 mw_1331 dJ0_coder_7d493_7 ?_
    refine lv_goto (tgt := 14) hx hb dJ0_coder_7d493_10 (by decide) ?_
    obtain ⟨b2, hf⟩ := chk_ex hf
    exact e_z X hr hW (bb_n b2) (someinj hf) dJ0_coder_7d493_14
set_option maxRecDepth 100000 in
set_option maxHeartbeats 4000000 in
theorem c_J0_length_8abf5 (l : Launch) (g : gG) (hDW : DW g) (q0 : Nat) (hq0 : q0 = 4 ∨ q0 = 6) (mm : gM) (r0 : Int32) (hf : fJ0_length_8abf5 q0 = some r0) : Met l yJ0_length_8abf5 (Cond.code yJ0_length_8abf5 cJ0_length_8abf5 1 (some .int) :: ALLW) rm_J0_length_8abf5 (CPre g mm [.ref (sx g q0)]) (CI g mm r0) 0 0 (gA g) := by
  refine Met.ofW (cc := cJ0_length_8abf5) (maxL := 1) (ret := (some .int)) (by decide) rfl ?_
  intro p e s m args below meth c s₁ B hml hv
  obtain ⟨ha, hFx, hP0, hlo⟩ := hv
  have X : Cx g p s m args c meth RJ0 cJ0_length_8abf5 := Cx_of hDW hFx hlo B
  have hx := X.1
  have hb := X.2.1
  have hr := B.returns
  have hlocks := X.2.2.2.2.2.2.2
  have hW : Wd g mm s s.heap [] := ⟨hP0, va_S.rf⟩
  rw [ha, lg_entry_eq]
  have hl := lv_entry ([.ref (sx g q0)] : List Value) (n := 1) (Nat.le_of_ble_eq_true rfl)
  generalize (lg_sl ([.ref (sx g q0)] : List Value) ++ List.replicate (1 - (lg_sl ([.ref (sx g q0)] : List Value)).length) Slot.unset).toArray = ls at hl ⊢
  have hl : lv_has ls 1 [(0, .ref (sx g q0))] := hl
  rw [← ha]
  show W p l e rm_J0_length_8abf5 s m args below meth c s.heap [] 0 0 (MQ below (CI g mm r0) args s 0 0 (gA g)) (F0 m 0 ls [])
  unfold fJ0_length_8abf5 at hf
  refine lv_aload_n hx hb dJ0_length_8abf5_0 rfl (lv_at hl 0 rfl) ?_
  refine r_value X hW hq0 mw_1332 dJ0_length_8abf5_1 ?_
  refine r_blen X hW hq0 dJ0_length_8abf5_4 ?_
  refine lv_aload_n hx hb dJ0_length_8abf5_5 rfl (lv_at hl 0 rfl) ?_
  obtain ⟨r2, e1, hf⟩ := bnd_ex hf
  refine k_i X hW (k_V (As := []) (rest := [.int 18]) X hW hml hl.1 (c_J0_coder_7d493 l g hDW q0 hq0  mm _ e1) (r_recS X hW hq0) ⟨mw_316, kw_J0_coder_7d493⟩ ⟨⟨rfl, rfl⟩, ko_J0_coder_7d493, ⟨Nat.le_of_ble_eq_true rfl, Nat.le_of_ble_eq_true rfl⟩⟩ rfl rfl (Nat.le_of_ble_eq_true rfl) dJ0_length_8abf5_6 ⟨Nat.le_of_ble_eq_true rfl, Nat.le_of_ble_eq_true rfl⟩) (fun H locs hW => ?_)
  refine lv_ishr hx hb dJ0_length_8abf5_9 ?_
  exact e_i X hr hW (someinj hf) dJ0_length_8abf5_10
set_option maxRecDepth 100000 in
set_option maxHeartbeats 4000000 in
theorem c_J1_canEncode_9a6ad (l : Launch) (g : gG) (hDW : DW g) (x0 : Int32) (mm : gM) (r0 : Int32) (hf : fJ1_canEncode_9a6ad x0 = some r0) : Met l yJ1_canEncode_9a6ad (Cond.code yJ1_canEncode_9a6ad cJ1_canEncode_9a6ad 1 (some .boolean) :: ALLW) rm_J1_canEncode_9a6ad (CPre g mm [.int x0]) (CI g mm r0) 0 0 (gA g) := by
  refine Met.ofW (cc := cJ1_canEncode_9a6ad) (maxL := 1) (ret := (some .boolean)) (by decide) rfl ?_
  intro p e s m args below meth c s₁ B hml hv
  obtain ⟨ha, hFx, hP0, hlo⟩ := hv
  have X : Cx g p s m args c meth RJ1 cJ1_canEncode_9a6ad := Cx_of hDW hFx hlo B
  have hx := X.1
  have hb := X.2.1
  have hr := B.returns
  have hlocks := X.2.2.2.2.2.2.2
  have hW : Wd g mm s s.heap [] := ⟨hP0, va_S.rf⟩
  rw [ha, lg_entry_eq]
  have hl := lv_entry ([.int x0] : List Value) (n := 1) (Nat.le_of_ble_eq_true rfl)
  generalize (lg_sl ([.int x0] : List Value) ++ List.replicate (1 - (lg_sl ([.int x0] : List Value)).length) Slot.unset).toArray = ls at hl ⊢
  have hl : lv_has ls 1 [(0, .int x0)] := hl
  rw [← ha]
  show W p l e rm_J1_canEncode_9a6ad s m args below meth c s.heap [] 0 0 (MQ below (CI g mm r0) args s 0 0 (gA g)) (F0 m 0 ls [])
  have P_15 : ∀ (H : Heap) (locs : List Loc) (ls : Array Slot), Wd g mm s H locs → lv_has ls 1 [] → jJ1_canEncode_9a6ad_15 = some r0 → W p l e rm_J1_canEncode_9a6ad s m args below meth c H locs 0 0 (MQ below (CI g mm r0) args s 0 0 (gA g)) (F0 m 15 ls []) := by
    intro  H locs ls hW hl hf
    unfold jJ1_canEncode_9a6ad_15 at hf
    refine lv_iconst (v := 0) hx hb dJ1_canEncode_9a6ad_15 (by decide) ?_
    obtain ⟨b4, hf⟩ := chk_ex hf
    exact e_z X hr hW (bz_n b4) (someinj hf) dJ1_canEncode_9a6ad_16
  unfold fJ1_canEncode_9a6ad at hf
  refine lv_iload_n hx hb dJ1_canEncode_9a6ad_0 rfl (lv_at hl 0 rfl) ?_
  refine lv_if_lt (tgt := 15) hx hb dJ1_canEncode_9a6ad_1 (by decide) (fun c3 => ?_) (fun c3 => ?_)
  · replace hf := ite_t hf c3
    exact P_15  _ _ _ hW (lv_sub hl [] rfl) hf
  · replace hf := ite_f hf c3
    refine lv_iload_n hx hb dJ1_canEncode_9a6ad_4 rfl (lv_at hl 0 rfl) ?_
    refine lv_sipush (v := 255) hx hb dJ1_canEncode_9a6ad_5 (by decide) ?_
    refine lv_icmp_gt (tgt := 15) hx hb dJ1_canEncode_9a6ad_8 (by decide) (fun c2 => ?_) (fun c2 => ?_)
    · replace hf := ite_t hf c2
      exact P_15  _ _ _ hW (lv_sub hl [] rfl) hf
    · replace hf := ite_f hf c2
      refine lv_iconst (v := 1) hx hb dJ1_canEncode_9a6ad_11 (by decide) ?_
      refine lv_goto (tgt := 16) hx hb dJ1_canEncode_9a6ad_12 (by decide) ?_
      obtain ⟨b1, hf⟩ := chk_ex hf
      exact e_z X hr hW (bz_n b1) (someinj hf) dJ1_canEncode_9a6ad_16
set_option maxRecDepth 100000 in
set_option maxHeartbeats 4000000 in
theorem c_J1_indexOfChar_4cfef (l : Launch) (g : gG) (hDW : DW g) (q0 : Nat) (hq0 : q0 = 4 ∨ q0 = 6) (x1 : Int32) (x2 : Int32) (x3 : Int32) (mm : gM) (r0 : Int32) (hf : fJ1_indexOfChar_4cfef q0 x1 x2 x3 = some r0) : Met l yJ1_indexOfChar_4cfef (Cond.code yJ1_indexOfChar_4cfef cJ1_indexOfChar_4cfef 6 (some .int) :: ALLW) rm_J1_indexOfChar_4cfef (CPre g mm [.ref (sx g (q0 + 1)), .int x1, .int x2, .int x3]) (CI g mm r0) 0 0 (gA g) := by
  refine Met.ofW (cc := cJ1_indexOfChar_4cfef) (maxL := 6) (ret := (some .int)) (by decide) rfl ?_
  intro p e s m args below meth c s₁ B hml hv
  obtain ⟨ha, hFx, hP0, hlo⟩ := hv
  have X : Cx g p s m args c meth RJ1 cJ1_indexOfChar_4cfef := Cx_of hDW hFx hlo B
  have hx := X.1
  have hb := X.2.1
  have hr := B.returns
  have hlocks := X.2.2.2.2.2.2.2
  have hW : Wd g mm s s.heap [] := ⟨hP0, va_S.rf⟩
  rw [ha, lg_entry_eq]
  have hl := lv_entry ([.ref (sx g (q0 + 1)), .int x1, .int x2, .int x3] : List Value) (n := 6) (Nat.le_of_ble_eq_true rfl)
  generalize (lg_sl ([.ref (sx g (q0 + 1)), .int x1, .int x2, .int x3] : List Value) ++ List.replicate (6 - (lg_sl ([.ref (sx g (q0 + 1)), .int x1, .int x2, .int x3] : List Value)).length) Slot.unset).toArray = ls at hl ⊢
  have hl : lv_has ls 6 [(0, .ref (sx g (q0 + 1))), (1, .int x1), (2, .int x2), (3, .int x3)] := hl
  rw [← ha]
  show W p l e rm_J1_indexOfChar_4cfef s m args below meth c s.heap [] 0 0 (MQ below (CI g mm r0) args s 0 0 (gA g)) (F0 m 0 ls [])
  have P_7 : ∀ (n7 : Nat) (x3 : Int32) (x4 : Int32) (x5 : Int32) (H : Heap) (locs : List Loc) (ls : Array Slot), Wd g mm s H locs → lv_has ls 6 [(0, .ref (sx g (q0 + 1))), (3, .int x3), (4, .int x4), (5, .int x5)] → lJ1_indexOfChar_4cfef_7 q0 n7 x3 x4 x5 = some r0 → W p l e rm_J1_indexOfChar_4cfef s m args below meth c H locs 0 0 (MQ below (CI g mm r0) args s 0 0 (gA g)) (F0 m 7 ls []) := by
    intro n7
    induction n7 with
    | zero => intro x3 x4 x5 H locs ls hW hl hf; exact (no_some hf).elim
    | succ n7 ih_7 =>
      intro x3 x4 x5 H locs ls hW hl hf
      rw [lJ1_indexOfChar_4cfef_7_s] at hf
      refine lv_iload hx hb dJ1_indexOfChar_4cfef_7 (lv_at hl 3 rfl) ?_
      refine lv_iload_n hx hb dJ1_indexOfChar_4cfef_9 rfl (lv_at hl 1 rfl) ?_
      refine lv_icmp_ge (tgt := 31) hx hb dJ1_indexOfChar_4cfef_10 (by decide) (fun c3 => ?_) (fun c3 => ?_)
      · replace hf := ite_t hf c3
        refine lv_iconst (v := -1) hx hb dJ1_indexOfChar_4cfef_31 (by decide) ?_
        exact e_i X hr hW (someinj hf) dJ1_indexOfChar_4cfef_32
      · replace hf := ite_f hf c3
        refine lv_aload_n hx hb dJ1_indexOfChar_4cfef_13 rfl (lv_at hl 0 rfl) ?_
        refine lv_iload hx hb dJ1_indexOfChar_4cfef_14 (lv_at hl 3 rfl) ?_
        obtain ⟨b1, hf⟩ := chk_ex hf
        refine r_bytes X hW hq0 b1 dJ1_indexOfChar_4cfef_16 ?_
        refine lv_iload hx hb dJ1_indexOfChar_4cfef_17 (lv_at hl 2 rfl) ?_
        refine lv_icmp_ne (tgt := 25) hx hb dJ1_indexOfChar_4cfef_19 (by decide) (fun c2 => ?_) (fun c2 => ?_)
        · replace hf := ite_f hf c2
          refine lv_iinc (v := x5 + 1) (lv' := [(5, .int (x5 + 1)), (0, .ref (sx g (q0 + 1))), (3, .int x3), (4, .int x4)]) hx hb dJ1_indexOfChar_4cfef_25 hl (k := 3) rfl rfl (by decide) rfl (fun ls hl => ?_)
          refine lv_goto (tgt := 7) hx hb dJ1_indexOfChar_4cfef_28 (by decide) ?_
          exact ih_7 _ _ _ _ _ _ hW (lv_sub hl [1, 2, 3, 0] rfl) hf
        · replace hf := ite_t hf c2
          refine lv_iload hx hb dJ1_indexOfChar_4cfef_22 (lv_at hl 3 rfl) ?_
          exact e_i X hr hW (someinj hf) dJ1_indexOfChar_4cfef_24
  unfold fJ1_indexOfChar_4cfef at hf
  refine lv_iload_n hx hb dJ1_indexOfChar_4cfef_0 rfl (lv_at hl 1 rfl) ?_
  refine lv_i2b hx hb dJ1_indexOfChar_4cfef_1 (v := x1.toInt8.toInt32) rfl ?_
  refine lv_istore (lv' := [(4, .int x1.toInt8.toInt32), (0, .ref (sx g (q0 + 1))), (1, .int x1), (2, .int x2), (3, .int x3)]) hx hb dJ1_indexOfChar_4cfef_2 hl (by decide) rfl (fun ls hl => ?_)
  refine lv_iload_n hx hb dJ1_indexOfChar_4cfef_4 rfl (lv_at hl 3 rfl) ?_
  refine lv_istore (lv' := [(5, .int x2), (4, .int x1.toInt8.toInt32), (0, .ref (sx g (q0 + 1))), (1, .int x1), (2, .int x2), (3, .int x3)]) hx hb dJ1_indexOfChar_4cfef_5 hl (by decide) rfl (fun ls hl => ?_)
  exact P_7 _ _ _ _ _ _ _ hW (lv_sub hl [2, 5, 1, 0] rfl) hf
set_option maxRecDepth 100000 in
set_option maxHeartbeats 4000000 in
theorem c_J1_indexOf_4cfef (l : Launch) (g : gG) (hDW : DW g) (q0 : Nat) (hq0 : q0 = 4 ∨ q0 = 6) (x1 : Int32) (x2 : Int32) (x3 : Int32) (mm : gM) (r0 : Int32) (hf : fJ1_indexOf_4cfef q0 x1 x2 x3 = some r0) : Met l yJ1_indexOf_4cfef (Cond.code yJ1_indexOf_4cfef cJ1_indexOf_4cfef 4 (some .int) :: ALLW) rm_J1_indexOf_4cfef (CPre g mm [.ref (sx g (q0 + 1)), .int x1, .int x2, .int x3]) (CI g mm r0) 0 0 (gA g) := by
  refine Met.ofW (cc := cJ1_indexOf_4cfef) (maxL := 4) (ret := (some .int)) (by decide) rfl ?_
  intro p e s m args below meth c s₁ B hml hv
  obtain ⟨ha, hFx, hP0, hlo⟩ := hv
  have X : Cx g p s m args c meth RJ1 cJ1_indexOf_4cfef := Cx_of hDW hFx hlo B
  have hx := X.1
  have hb := X.2.1
  have hr := B.returns
  have hlocks := X.2.2.2.2.2.2.2
  have hW : Wd g mm s s.heap [] := ⟨hP0, va_S.rf⟩
  rw [ha, lg_entry_eq]
  have hl := lv_entry ([.ref (sx g (q0 + 1)), .int x1, .int x2, .int x3] : List Value) (n := 4) (Nat.le_of_ble_eq_true rfl)
  generalize (lg_sl ([.ref (sx g (q0 + 1)), .int x1, .int x2, .int x3] : List Value) ++ List.replicate (4 - (lg_sl ([.ref (sx g (q0 + 1)), .int x1, .int x2, .int x3] : List Value)).length) Slot.unset).toArray = ls at hl ⊢
  have hl : lv_has ls 4 [(0, .ref (sx g (q0 + 1))), (1, .int x1), (2, .int x2), (3, .int x3)] := hl
  rw [← ha]
  show W p l e rm_J1_indexOf_4cfef s m args below meth c s.heap [] 0 0 (MQ below (CI g mm r0) args s 0 0 (gA g)) (F0 m 0 ls [])
  unfold fJ1_indexOf_4cfef at hf
  refine lv_iload_n hx hb dJ1_indexOf_4cfef_0 rfl (lv_at hl 1 rfl) ?_
  obtain ⟨r2, e1, hf⟩ := bnd_ex hf
  refine k_i X hW (k_S (As := [.int x1]) (rest := []) X hW hml hl.1 (c_J1_canEncode_9a6ad l g hDW  _ mm _ e1) ⟨mw_323, kw_J1_canEncode_9a6ad⟩ ⟨⟨rfl, rfl⟩, ko_J1_canEncode_9a6ad, ⟨Nat.le_of_ble_eq_true rfl, Nat.le_of_ble_eq_true rfl⟩⟩ rfl rfl (Nat.le_of_ble_eq_true rfl) dJ1_indexOf_4cfef_1 ⟨Nat.le_of_ble_eq_true rfl, Nat.le_of_ble_eq_true rfl⟩) (fun H locs hW => ?_)
  refine lv_if_ne (tgt := 9) hx hb dJ1_indexOf_4cfef_4 (by decide) (fun c8 => ?_) (fun c8 => ?_)
  · replace hf := ite_f hf c8
    refine lv_iload_n hx hb dJ1_indexOf_4cfef_9 rfl (lv_at hl 2 rfl) ?_
    refine lv_iconst (v := 0) hx hb dJ1_indexOf_4cfef_10 (by decide) ?_
    refine r_mx X hml hl.1 mw_326 kw_mx (Nat.le_of_ble_eq_true rfl) (Nat.le_of_ble_eq_true rfl) (Nat.le_of_ble_eq_true rfl) (Nat.le_of_ble_eq_true rfl) dJ1_indexOf_4cfef_11 ?_
    refine lv_istore_n (lv' := [(2, .int (mx x2 0)), (0, .ref (sx g (q0 + 1))), (1, .int x1), (3, .int x3)]) hx hb dJ1_indexOf_4cfef_14 rfl hl (by decide) rfl (fun ls hl => ?_)
    refine lv_iload_n hx hb dJ1_indexOf_4cfef_15 rfl (lv_at hl 3 rfl) ?_
    refine lv_aload_n hx hb dJ1_indexOf_4cfef_16 rfl (lv_at hl 1 rfl) ?_
    refine r_blen X hW hq0 dJ1_indexOf_4cfef_17 ?_
    refine r_mn X hml hl.1 mw_329 kw_mn (Nat.le_of_ble_eq_true rfl) (Nat.le_of_ble_eq_true rfl) (Nat.le_of_ble_eq_true rfl) (Nat.le_of_ble_eq_true rfl) dJ1_indexOf_4cfef_18 ?_
    refine lv_istore_n (lv' := [(3, .int (mn x3 18)), (2, .int (mx x2 0)), (0, .ref (sx g (q0 + 1))), (1, .int x1)]) hx hb dJ1_indexOf_4cfef_21 rfl hl (by decide) rfl (fun ls hl => ?_)
    refine lv_iload_n hx hb dJ1_indexOf_4cfef_22 rfl (lv_at hl 1 rfl) ?_
    refine lv_iload_n hx hb dJ1_indexOf_4cfef_23 rfl (lv_at hl 0 rfl) ?_
    refine lv_icmp_lt (tgt := 29) hx hb dJ1_indexOf_4cfef_24 (by decide) (fun c7 => ?_) (fun c7 => ?_)
    · replace hf := ite_t hf c7
      refine lv_aload_n hx hb dJ1_indexOf_4cfef_29 rfl (lv_at hl 2 rfl) ?_
      refine lv_iload_n hx hb dJ1_indexOf_4cfef_30 rfl (lv_at hl 3 rfl) ?_
      refine lv_iload_n hx hb dJ1_indexOf_4cfef_31 rfl (lv_at hl 1 rfl) ?_
      refine lv_iload_n hx hb dJ1_indexOf_4cfef_32 rfl (lv_at hl 0 rfl) ?_
      obtain ⟨r5, e4, hf⟩ := bnd_ex hf
      refine k_i X hW (k_S (As := [.ref (sx g (q0 + 1)), .int x1, .int (mx x2 0), .int (mn x3 18)]) (rest := []) X hW hml hl.1 (c_J1_indexOfChar_4cfef l g hDW q0 hq0 _ _ _ mm _ e4) ⟨mw_332, kw_J1_indexOfChar_4cfef⟩ ⟨⟨rfl, rfl⟩, ko_J1_indexOfChar_4cfef, ⟨Nat.le_of_ble_eq_true rfl, Nat.le_of_ble_eq_true rfl⟩⟩ rfl rfl (Nat.le_of_ble_eq_true rfl) dJ1_indexOf_4cfef_33 ⟨Nat.le_of_ble_eq_true rfl, Nat.le_of_ble_eq_true rfl⟩) (fun H locs hW => ?_)
      exact e_i X hr hW (someinj hf) dJ1_indexOf_4cfef_36
    · replace hf := ite_f hf c7
      refine lv_iconst (v := -1) hx hb dJ1_indexOf_4cfef_27 (by decide) ?_
      exact e_i X hr hW (someinj hf) dJ1_indexOf_4cfef_28
  · replace hf := ite_t hf c8
    refine lv_iconst (v := -1) hx hb dJ1_indexOf_4cfef_7 (by decide) ?_
    exact e_i X hr hW (someinj hf) dJ1_indexOf_4cfef_8
set_option maxRecDepth 100000 in
set_option maxHeartbeats 4000000 in
theorem c_J0_indexOf_7cf53 (l : Launch) (g : gG) (hDW : DW g) (q0 : Nat) (hq0 : q0 = 4 ∨ q0 = 6) (x1 : Int32) (x2 : Int32) (mm : gM) (r0 : Int32) (hf : fJ0_indexOf_7cf53 q0 x1 x2 = some r0) : Met l yJ0_indexOf_7cf53 (Cond.code yJ0_indexOf_7cf53 cJ0_indexOf_7cf53 3 (some .int) :: ALLW) rm_J0_indexOf_7cf53 (CPre g mm [.ref (sx g q0), .int x1, .int x2]) (CI g mm r0) 0 0 (gA g) := by
  refine Met.ofW (cc := cJ0_indexOf_7cf53) (maxL := 3) (ret := (some .int)) (by decide) rfl ?_
  intro p e s m args below meth c s₁ B hml hv
  obtain ⟨ha, hFx, hP0, hlo⟩ := hv
  have X : Cx g p s m args c meth RJ0 cJ0_indexOf_7cf53 := Cx_of hDW hFx hlo B
  have hx := X.1
  have hb := X.2.1
  have hr := B.returns
  have hlocks := X.2.2.2.2.2.2.2
  have hW : Wd g mm s s.heap [] := ⟨hP0, va_S.rf⟩
  rw [ha, lg_entry_eq]
  have hl := lv_entry ([.ref (sx g q0), .int x1, .int x2] : List Value) (n := 3) (Nat.le_of_ble_eq_true rfl)
  generalize (lg_sl ([.ref (sx g q0), .int x1, .int x2] : List Value) ++ List.replicate (3 - (lg_sl ([.ref (sx g q0), .int x1, .int x2] : List Value)).length) Slot.unset).toArray = ls at hl ⊢
  have hl : lv_has ls 3 [(0, .ref (sx g q0)), (1, .int x1), (2, .int x2)] := hl
  rw [← ha]
  show W p l e rm_J0_indexOf_7cf53 s m args below meth c s.heap [] 0 0 (MQ below (CI g mm r0) args s 0 0 (gA g)) (F0 m 0 ls [])
  unfold fJ0_indexOf_7cf53 at hf
  refine lv_aload_n hx hb dJ0_indexOf_7cf53_0 rfl (lv_at hl 0 rfl) ?_
  obtain ⟨r2, e1, hf⟩ := bnd_ex hf
  refine k_i X hW (k_V (As := []) (rest := []) X hW hml hl.1 (c_J0_isLatin1_aae02 l g hDW q0 hq0  mm _ e1) (r_recS X hW hq0) ⟨mw_306, kw_J0_isLatin1_aae02⟩ ⟨⟨rfl, rfl⟩, ko_J0_isLatin1_aae02, ⟨Nat.le_of_ble_eq_true rfl, Nat.le_of_ble_eq_true rfl⟩⟩ rfl rfl (Nat.le_of_ble_eq_true rfl) dJ0_indexOf_7cf53_1 ⟨Nat.le_of_ble_eq_true rfl, Nat.le_of_ble_eq_true rfl⟩) (fun H locs hW => ?_)
  refine lv_if_eq (tgt := 23) hx hb dJ0_indexOf_7cf53_4 (by decide) (fun c13 => ?_) (fun c13 => ?_)
  · replace hf := ite_t hf c13
    exact (no_some hf).elim
  · replace hf := ite_f hf c13
    refine lv_aload_n hx hb dJ0_indexOf_7cf53_7 rfl (lv_at hl 0 rfl) ?_
    refine r_value X hW hq0 mw_1332 dJ0_indexOf_7cf53_8 ?_
    refine lv_iload_n hx hb dJ0_indexOf_7cf53_11 rfl (lv_at hl 1 rfl) ?_
    refine lv_iload_n hx hb dJ0_indexOf_7cf53_12 rfl (lv_at hl 2 rfl) ?_
    refine lv_aload_n hx hb dJ0_indexOf_7cf53_13 rfl (lv_at hl 0 rfl) ?_
    obtain ⟨r8, e7, hf⟩ := bnd_ex hf
    refine k_i X hW (k_V (As := []) (rest := [.int x2, .int x1, .ref (sx g (q0 + 1))]) X hW hml hl.1 (c_J0_length_8abf5 l g hDW q0 hq0  mm _ e7) (r_recS X hW hq0) ⟨mw_312, kw_J0_length_8abf5⟩ ⟨⟨rfl, rfl⟩, ko_J0_length_8abf5, ⟨Nat.le_of_ble_eq_true rfl, Nat.le_of_ble_eq_true rfl⟩⟩ rfl rfl (Nat.le_of_ble_eq_true rfl) dJ0_indexOf_7cf53_14 ⟨Nat.le_of_ble_eq_true rfl, Nat.le_of_ble_eq_true rfl⟩) (fun H locs hW => ?_)
    obtain ⟨r11, e10, hf⟩ := bnd_ex hf
    refine k_i X hW (k_S (As := [.ref (sx g (q0 + 1)), .int x1, .int x2, .int r8]) (rest := []) X hW hml hl.1 (c_J1_indexOf_4cfef l g hDW q0 hq0 _ _ _ mm _ e10) ⟨mw_320, kw_J1_indexOf_4cfef⟩ ⟨⟨rfl, rfl⟩, ko_J1_indexOf_4cfef, ⟨Nat.le_of_ble_eq_true rfl, Nat.le_of_ble_eq_true rfl⟩⟩ rfl rfl (Nat.le_of_ble_eq_true rfl) dJ0_indexOf_7cf53_17 ⟨Nat.le_of_ble_eq_true rfl, Nat.le_of_ble_eq_true rfl⟩) (fun H locs hW => ?_)
    refine lv_goto (tgt := 36) hx hb dJ0_indexOf_7cf53_20 (by decide) ?_
    exact e_i X hr hW (someinj hf) dJ0_indexOf_7cf53_36
set_option maxRecDepth 100000 in
set_option maxHeartbeats 4000000 in
theorem c_J0_indexOf_0f7a4 (l : Launch) (g : gG) (hDW : DW g) (q0 : Nat) (hq0 : q0 = 4 ∨ q0 = 6) (x1 : Int32) (mm : gM) (r0 : Int32) (hf : fJ0_indexOf_0f7a4 q0 x1 = some r0) : Met l yJ0_indexOf_0f7a4 (Cond.code yJ0_indexOf_0f7a4 cJ0_indexOf_0f7a4 2 (some .int) :: ALLW) rm_J0_indexOf_0f7a4 (CPre g mm [.ref (sx g q0), .int x1]) (CI g mm r0) 0 0 (gA g) := by
  refine Met.ofW (cc := cJ0_indexOf_0f7a4) (maxL := 2) (ret := (some .int)) (by decide) rfl ?_
  intro p e s m args below meth c s₁ B hml hv
  obtain ⟨ha, hFx, hP0, hlo⟩ := hv
  have X : Cx g p s m args c meth RJ0 cJ0_indexOf_0f7a4 := Cx_of hDW hFx hlo B
  have hx := X.1
  have hb := X.2.1
  have hr := B.returns
  have hlocks := X.2.2.2.2.2.2.2
  have hW : Wd g mm s s.heap [] := ⟨hP0, va_S.rf⟩
  rw [ha, lg_entry_eq]
  have hl := lv_entry ([.ref (sx g q0), .int x1] : List Value) (n := 2) (Nat.le_of_ble_eq_true rfl)
  generalize (lg_sl ([.ref (sx g q0), .int x1] : List Value) ++ List.replicate (2 - (lg_sl ([.ref (sx g q0), .int x1] : List Value)).length) Slot.unset).toArray = ls at hl ⊢
  have hl : lv_has ls 2 [(0, .ref (sx g q0)), (1, .int x1)] := hl
  rw [← ha]
  show W p l e rm_J0_indexOf_0f7a4 s m args below meth c s.heap [] 0 0 (MQ below (CI g mm r0) args s 0 0 (gA g)) (F0 m 0 ls [])
  unfold fJ0_indexOf_0f7a4 at hf
  refine lv_aload_n hx hb dJ0_indexOf_0f7a4_0 rfl (lv_at hl 0 rfl) ?_
  refine lv_iload_n hx hb dJ0_indexOf_0f7a4_1 rfl (lv_at hl 1 rfl) ?_
  refine lv_iconst (v := 0) hx hb dJ0_indexOf_0f7a4_2 (by decide) ?_
  obtain ⟨r2, e1, hf⟩ := bnd_ex hf
  refine k_i X hW (k_V (As := [.int x1, .int 0]) (rest := []) X hW hml hl.1 (c_J0_indexOf_7cf53 l g hDW q0 hq0 _ _ mm _ e1) (r_recS X hW hq0) ⟨mw_302, kw_J0_indexOf_7cf53⟩ ⟨⟨rfl, rfl⟩, ko_J0_indexOf_7cf53, ⟨Nat.le_of_ble_eq_true rfl, Nat.le_of_ble_eq_true rfl⟩⟩ rfl rfl (Nat.le_of_ble_eq_true rfl) dJ0_indexOf_0f7a4_3 ⟨Nat.le_of_ble_eq_true rfl, Nat.le_of_ble_eq_true rfl⟩) (fun H locs hW => ?_)
  exact e_i X hr hW (someinj hf) dJ0_indexOf_0f7a4_6
set_option maxRecDepth 100000 in
set_option maxHeartbeats 4000000 in
theorem c_X3_errorAt (l : Launch) (g : gG) (hDW : DW g) (mm : gM) (r0 : Int32) (hf : fX3_errorAt mm = some r0) : Met l yX3_errorAt (Cond.code yX3_errorAt cX3_errorAt 4 (some .int) :: ALLW) rm_X3_errorAt (CPre g mm [.ref (ad g 16 0)]) (CI g mm r0) 0 0 (gA g) := by
  refine Met.ofW (cc := cX3_errorAt) (maxL := 4) (ret := (some .int)) (by decide) rfl ?_
  intro p e s m args below meth c s₁ B hml hv
  obtain ⟨ha, hFx, hP0, hlo⟩ := hv
  have X : Cx g p s m args c meth RX3 cX3_errorAt := Cx_of hDW hFx hlo B
  have hx := X.1
  have hb := X.2.1
  have hr := B.returns
  have hlocks := X.2.2.2.2.2.2.2
  have hW : Wd g mm s s.heap [] := ⟨hP0, va_S.rf⟩
  rw [ha, lg_entry_eq]
  have hl := lv_entry ([.ref (ad g 16 0)] : List Value) (n := 4) (Nat.le_of_ble_eq_true rfl)
  generalize (lg_sl ([.ref (ad g 16 0)] : List Value) ++ List.replicate (4 - (lg_sl ([.ref (ad g 16 0)] : List Value)).length) Slot.unset).toArray = ls at hl ⊢
  have hl : lv_has ls 4 [(0, .ref (ad g 16 0))] := hl
  rw [← ha]
  show W p l e rm_X3_errorAt s m args below meth c s.heap [] 0 0 (MQ below (CI g mm r0) args s 0 0 (gA g)) (F0 m 0 ls [])
  have P_75 : ∀ (H : Heap) (locs : List Loc) (ls : Array Slot), Wd g mm s H locs → lv_has ls 4 [(0, .ref (ad g 16 0))] → jX3_errorAt_75 mm = some r0 → W p l e rm_X3_errorAt s m args below meth c H locs 0 0 (MQ below (CI g mm r0) args s 0 0 (gA g)) (F0 m 75 ls []) := by
    intro  H locs ls hW hl hf
    unfold jX3_errorAt_75 at hf
    refine lv_aload_n hx hb dX3_errorAt_75 rfl (lv_at hl 0 rfl) ?_
    refine gf_16_1 X hW (by decide) mw_240 dX3_errorAt_76 ?_
    exact e_i X hr hW (someinj hf) dX3_errorAt_79
  have P_62 : ∀ (x3 : Int32) (H : Heap) (locs : List Loc) (ls : Array Slot), Wd g mm s H locs → lv_has ls 4 [(3, .int x3)] → jX3_errorAt_62 mm x3 = some r0 → W p l e rm_X3_errorAt s m args below meth c H locs 0 0 (MQ below (CI g mm r0) args s 0 0 (gA g)) (F0 m 62 ls []) := by
    intro x3 H locs ls hW hl hf
    unfold jX3_errorAt_62 at hf
    refine lv_iload_n hx hb dX3_errorAt_62 rfl (lv_at hl 0 rfl) ?_
    exact e_i X hr hW (someinj hf) dX3_errorAt_63
  have P_6 : ∀ (n6 : Nat) (x1 : Int32) (x2 : Int32) (x3 : Int32) (H : Heap) (locs : List Loc) (ls : Array Slot), Wd g mm s H locs → lv_has ls 4 [(0, .ref (ad g 16 0)), (1, .int x1), (2, .int x2), (3, .int x3)] → lX3_errorAt_6 mm n6 x1 x2 x3 = some r0 → W p l e rm_X3_errorAt s m args below meth c H locs 0 0 (MQ below (CI g mm r0) args s 0 0 (gA g)) (F0 m 6 ls []) := by
    intro n6
    induction n6 with
    | zero => intro x1 x2 x3 H locs ls hW hl hf; exact (no_some hf).elim
    | succ n6 ih_6 =>
      have P_69 : ∀ (x1 : Int32) (x2 : Int32) (x3 : Int32) (H : Heap) (locs : List Loc) (ls : Array Slot), Wd g mm s H locs → lv_has ls 4 [(0, .ref (ad g 16 0)), (1, .int x1), (2, .int x2), (3, .int x3)] → jX3_errorAt_69 (lX3_errorAt_6 mm n6) mm x1 x2 x3 = some r0 → W p l e rm_X3_errorAt s m args below meth c H locs 0 0 (MQ below (CI g mm r0) args s 0 0 (gA g)) (F0 m 69 ls []) := by
        intro x1 x2 x3 H locs ls hW hl hf
        unfold jX3_errorAt_69 at hf
        refine lv_iinc (v := x3 + 1) (lv' := [(3, .int (x3 + 1)), (0, .ref (ad g 16 0)), (1, .int x1), (2, .int x2)]) hx hb dX3_errorAt_69 hl (k := 3) rfl rfl (by decide) rfl (fun ls hl => ?_)
        refine lv_goto (tgt := 6) hx hb dX3_errorAt_72 (by decide) ?_
        exact ih_6 _ _ _ _ _ _ hW (lv_sub hl [1, 2, 3, 0] rfl) hf
      intro x1 x2 x3 H locs ls hW hl hf
      rw [lX3_errorAt_6_s] at hf
      refine lv_iload_n hx hb dX3_errorAt_6 rfl (lv_at hl 3 rfl) ?_
      refine lv_bipush (v := 12) hx hb dX3_errorAt_7 (by decide) ?_
      refine lv_icmp_ge (tgt := 75) hx hb dX3_errorAt_9 (by decide) (fun c11 => ?_) (fun c11 => ?_)
      · replace hf := ite_t hf c11
        exact P_75  _ _ _ hW (lv_sub hl [0] rfl) hf
      · replace hf := ite_f hf c11
        refine lv_iload_n hx hb dX3_errorAt_12 rfl (lv_at hl 3 rfl) ?_
        refine lv_aload_n hx hb dX3_errorAt_13 rfl (lv_at hl 0 rfl) ?_
        refine gf_16_1 X hW (by decide) mw_240 dX3_errorAt_14 ?_
        refine lv_icmp_ge (tgt := 75) hx hb dX3_errorAt_17 (by decide) (fun c10 => ?_) (fun c10 => ?_)
        · replace hf := ite_t hf c10
          exact P_75  _ _ _ hW (lv_sub hl [0] rfl) hf
        · replace hf := ite_f hf c10
          refine lv_aload_n hx hb dX3_errorAt_20 rfl (lv_at hl 0 rfl) ?_
          refine gf_16_0 X hW (by decide) mw_238 dX3_errorAt_21 ?_
          refine lv_iload_n hx hb dX3_errorAt_24 rfl (lv_at hl 3 rfl) ?_
          obtain ⟨b1, hf⟩ := chk_ex hf
          refine r_cald X hW 17 0 (by decide) (by decide) rfl b1 dX3_errorAt_25 ?_
          refine lv_bipush (v := 46) hx hb dX3_errorAt_26 (by decide) ?_
          refine lv_icmp_ne (tgt := 42) hx hb dX3_errorAt_28 (by decide) (fun c9 => ?_) (fun c9 => ?_)
          · replace hf := ite_f hf c9
            refine lv_iload_n hx hb dX3_errorAt_42 rfl (lv_at hl 1 rfl) ?_
            refine lv_bipush (v := 6) hx hb dX3_errorAt_43 (by decide) ?_
            refine lv_icmp_ge (tgt := 62) hx hb dX3_errorAt_45 (by decide) (fun c7 => ?_) (fun c7 => ?_)
            · replace hf := ite_t hf c7
              exact P_62 _ _ _ _ hW (lv_sub hl [3] rfl) hf
            · replace hf := ite_f hf c7
              refine r_ldcS X (sx g 4) X.2.2.2.2.2.2.1.2.2.2.1.1 dX3_errorAt_48 ?_
              refine lv_aload_n hx hb dX3_errorAt_50 rfl (lv_at hl 0 rfl) ?_
              refine gf_16_0 X hW (by decide) mw_238 dX3_errorAt_51 ?_
              refine lv_iload_n hx hb dX3_errorAt_54 rfl (lv_at hl 3 rfl) ?_
              obtain ⟨b2, hf⟩ := chk_ex hf
              refine r_cald X hW 17 0 (by decide) (by decide) rfl b2 dX3_errorAt_55 ?_
              obtain ⟨r4, e3, hf⟩ := bnd_ex hf
              refine k_i X hW (k_V (As := [.int (gi mm 17 0 x3.toNatClampNeg)]) (rest := []) X hW hml hl.1 (c_J0_indexOf_0f7a4 l g hDW 4 (by decide) _ mm _ e3) (r_recS X hW (by decide)) ⟨mw_298, kw_J0_indexOf_0f7a4⟩ ⟨⟨rfl, rfl⟩, ko_J0_indexOf_0f7a4, ⟨Nat.le_of_ble_eq_true rfl, Nat.le_of_ble_eq_true rfl⟩⟩ rfl rfl (Nat.le_of_ble_eq_true rfl) dX3_errorAt_56 ⟨Nat.le_of_ble_eq_true rfl, Nat.le_of_ble_eq_true rfl⟩) (fun H locs hW => ?_)
              refine lv_if_ge (tgt := 64) hx hb dX3_errorAt_59 (by decide) (fun c6 => ?_) (fun c6 => ?_)
              · replace hf := ite_t hf c6
                refine lv_iinc (v := x1 + 1) (lv' := [(1, .int (x1 + 1)), (0, .ref (ad g 16 0)), (2, .int x2), (3, .int x3)]) hx hb dX3_errorAt_64 hl (k := 1) rfl rfl (by decide) rfl (fun ls hl => ?_)
                refine lv_iconst (v := 1) hx hb dX3_errorAt_67 (by decide) ?_
                refine lv_istore_n (lv' := [(2, .int 1), (1, .int (x1 + 1)), (0, .ref (ad g 16 0)), (3, .int x3)]) hx hb dX3_errorAt_68 rfl hl (by decide) rfl (fun ls hl => ?_)
                exact P_69 _ _ _ _ _ _ hW (lv_sub hl [2, 1, 0, 3] rfl) hf
              · replace hf := ite_f hf c6
                exact P_62 _ _ _ _ hW (lv_sub hl [3] rfl) hf
          · replace hf := ite_t hf c9
            refine lv_iload_n hx hb dX3_errorAt_31 rfl (lv_at hl 2 rfl) ?_
            refine lv_if_ne (tgt := 37) hx hb dX3_errorAt_32 (by decide) (fun c8 => ?_) (fun c8 => ?_)
            · replace hf := ite_f hf c8
              refine lv_iconst (v := 0) hx hb dX3_errorAt_37 (by decide) ?_
              refine lv_istore_n (lv' := [(2, .int 0), (0, .ref (ad g 16 0)), (1, .int x1), (3, .int x3)]) hx hb dX3_errorAt_38 rfl hl (by decide) rfl (fun ls hl => ?_)
              refine lv_goto (tgt := 69) hx hb dX3_errorAt_39 (by decide) ?_
              exact P_69 _ _ _ _ _ _ hW (lv_sub hl [1, 2, 0, 3] rfl) hf
            · replace hf := ite_t hf c8
              refine lv_iload_n hx hb dX3_errorAt_35 rfl (lv_at hl 3 rfl) ?_
              exact e_i X hr hW (someinj hf) dX3_errorAt_36
  unfold fX3_errorAt at hf
  refine lv_iconst (v := 0) hx hb dX3_errorAt_0 (by decide) ?_
  refine lv_istore_n (lv' := [(1, .int 0), (0, .ref (ad g 16 0))]) hx hb dX3_errorAt_1 rfl hl (by decide) rfl (fun ls hl => ?_)
  refine lv_iconst (v := 0) hx hb dX3_errorAt_2 (by decide) ?_
  refine lv_istore_n (lv' := [(2, .int 0), (1, .int 0), (0, .ref (ad g 16 0))]) hx hb dX3_errorAt_3 rfl hl (by decide) rfl (fun ls hl => ?_)
  refine lv_iconst (v := 0) hx hb dX3_errorAt_4 (by decide) ?_
  refine lv_istore_n (lv' := [(3, .int 0), (2, .int 0), (1, .int 0), (0, .ref (ad g 16 0))]) hx hb dX3_errorAt_5 rfl hl (by decide) rfl (fun ls hl => ?_)
  exact P_6 _ _ _ _ _ _ _ hW (lv_sub hl [3, 2, 1, 0] rfl) hf
set_option maxRecDepth 100000 in
set_option maxHeartbeats 4000000 in
theorem c_X3_putOn (l : Launch) (g : gG) (hDW : DW g) (t0 : Nat) (ht0 : t0 < 10) (mm : gM) (r0 : Int32) (mZ : gM) (hf : fX3_putOn t0 mm = some (r0, mZ)) : Met l yX3_putOn (Cond.code yX3_putOn cX3_putOn 4 (some .int) :: ALLW) rm_X3_putOn (CPre g mm [.ref (ad g 16 0), .ref (ad g 0 t0)]) (CI g mZ r0) 0 0 (gA g) := by
  refine Met.ofW (cc := cX3_putOn) (maxL := 4) (ret := (some .int)) (by decide) rfl ?_
  intro p e s m args below meth c s₁ B hml hv
  obtain ⟨ha, hFx, hP0, hlo⟩ := hv
  have X : Cx g p s m args c meth RX3 cX3_putOn := Cx_of hDW hFx hlo B
  have hx := X.1
  have hb := X.2.1
  have hr := B.returns
  have hlocks := X.2.2.2.2.2.2.2
  have hW : Wd g mm s s.heap [] := ⟨hP0, va_S.rf⟩
  rw [ha, lg_entry_eq]
  have hl := lv_entry ([.ref (ad g 16 0), .ref (ad g 0 t0)] : List Value) (n := 4) (Nat.le_of_ble_eq_true rfl)
  generalize (lg_sl ([.ref (ad g 16 0), .ref (ad g 0 t0)] : List Value) ++ List.replicate (4 - (lg_sl ([.ref (ad g 16 0), .ref (ad g 0 t0)] : List Value)).length) Slot.unset).toArray = ls at hl ⊢
  have hl : lv_has ls 4 [(0, .ref (ad g 16 0)), (1, .ref (ad g 0 t0))] := hl
  rw [← ha]
  show W p l e rm_X3_putOn s m args below meth c s.heap [] 0 0 (MQ below (CI g mZ r0) args s 0 0 (gA g)) (F0 m 0 ls [])
  have P_109 : ∀ (x2 : Int32) (mm : gM) (H : Heap) (locs : List Loc) (ls : Array Slot), Wd g mm s H locs → lv_has ls 4 [(2, .int x2)] → jX3_putOn_109 t0 x2 mm = some (r0, mZ) → W p l e rm_X3_putOn s m args below meth c H locs 0 0 (MQ below (CI g mZ r0) args s 0 0 (gA g)) (F0 m 109 ls []) := by
    intro x2 mm H locs ls hW hl hf
    unfold jX3_putOn_109 at hf
    refine lv_iload_n hx hb dX3_putOn_109 rfl (lv_at hl 0 rfl) ?_
    obtain ⟨hf, hm⟩ := prinj hf
    replace hW := hW.same hm.symm
    exact e_i X hr hW (hf) dX3_putOn_110
  have P_31 : ∀ (n31 : Nat) (x2 : Int32) (x3 : Int32) (mm : gM) (H : Heap) (locs : List Loc) (ls : Array Slot), Wd g mm s H locs → lv_has ls 4 [(0, .ref (ad g 16 0)), (1, .ref (ad g 0 t0)), (2, .int x2), (3, .int x3)] → lX3_putOn_31 t0 n31 x2 x3 mm = some (r0, mZ) → W p l e rm_X3_putOn s m args below meth c H locs 0 0 (MQ below (CI g mZ r0) args s 0 0 (gA g)) (F0 m 31 ls []) := by
    intro n31
    induction n31 with
    | zero => intro x2 x3 mm H locs ls hW hl hf; exact (no_some hf).elim
    | succ n31 ih_31 =>
      have P_103 : ∀ (x2 : Int32) (x3 : Int32) (mm : gM) (H : Heap) (locs : List Loc) (ls : Array Slot), Wd g mm s H locs → lv_has ls 4 [(0, .ref (ad g 16 0)), (1, .ref (ad g 0 t0)), (2, .int x2), (3, .int x3)] → jX3_putOn_103 (lX3_putOn_31 t0 n31) t0 x2 x3 mm = some (r0, mZ) → W p l e rm_X3_putOn s m args below meth c H locs 0 0 (MQ below (CI g mZ r0) args s 0 0 (gA g)) (F0 m 103 ls []) := by
        intro x2 x3 mm H locs ls hW hl hf
        unfold jX3_putOn_103 at hf
        refine lv_iinc (v := x3 + 1) (lv' := [(3, .int (x3 + 1)), (0, .ref (ad g 16 0)), (1, .ref (ad g 0 t0)), (2, .int x2)]) hx hb dX3_putOn_103 hl (k := 3) rfl rfl (by decide) rfl (fun ls hl => ?_)
        refine lv_goto (tgt := 31) hx hb dX3_putOn_106 (by decide) ?_
        exact ih_31 _ _ _ _ _ _ hW (lv_sub hl [1, 2, 3, 0] rfl) hf
      have P_85 : ∀ (x2 : Int32) (x3 : Int32) (mm : gM) (H : Heap) (locs : List Loc) (ls : Array Slot), Wd g mm s H locs → lv_has ls 4 [(0, .ref (ad g 16 0)), (1, .ref (ad g 0 t0)), (2, .int x2), (3, .int x3)] → jX3_putOn_85 (lX3_putOn_31 t0 n31) t0 x2 x3 mm = some (r0, mZ) → W p l e rm_X3_putOn s m args below meth c H locs 0 0 (MQ below (CI g mZ r0) args s 0 0 (gA g)) (F0 m 85 ls []) := by
        intro x2 x3 mm H locs ls hW hl hf
        unfold jX3_putOn_85 at hf
        refine lv_iload_n hx hb dX3_putOn_85 rfl (lv_at hl 2 rfl) ?_
        refine lv_if_le (tgt := 103) hx hb dX3_putOn_86 (by decide) (fun c17 => ?_) (fun c17 => ?_)
        · replace hf := ite_t hf c17
          exact P_103 _ _ _ _ _ _ hW (lv_sub hl [0, 1, 2, 3] rfl) hf
        · replace hf := ite_f hf c17
          refine lv_aload_n hx hb dX3_putOn_89 rfl (lv_at hl 1 rfl) ?_
          refine lv_dup hx hb dX3_putOn_90 rfl ?_
          refine gf_0_5 X hW ht0 mw_130 dX3_putOn_91 ?_
          refine lv_iconst (v := 1) hx hb dX3_putOn_94 (by decide) ?_
          refine lv_iload_n hx hb dX3_putOn_95 rfl (lv_at hl 2 rfl) ?_
          refine lv_iconst (v := 1) hx hb dX3_putOn_96 (by decide) ?_
          refine lv_isub hx hb dX3_putOn_97 ?_
          refine lv_ishl hx hb dX3_putOn_98 ?_
          refine lv_ior hx hb dX3_putOn_99 ?_
          obtain ⟨m16, ex, hf⟩ := wth_ex hf
          refine pf_0_5 X hW ht0 mw_130 dX3_putOn_100 (fun H locs hW => ?_)
          replace hW := hW.same ex
          clear ex
          exact P_103 _ _ _ _ _ _ hW (lv_sub hl [0, 1, 2, 3] rfl) hf
      intro x2 x3 mm H locs ls hW hl hf
      rw [lX3_putOn_31_s] at hf
      refine lv_iload_n hx hb dX3_putOn_31 rfl (lv_at hl 3 rfl) ?_
      refine lv_bipush (v := 12) hx hb dX3_putOn_32 (by decide) ?_
      refine lv_icmp_ge (tgt := 109) hx hb dX3_putOn_34 (by decide) (fun c15 => ?_) (fun c15 => ?_)
      · replace hf := ite_t hf c15
        exact P_109 _ _ _ _ _ hW (lv_sub hl [2] rfl) hf
      · replace hf := ite_f hf c15
        refine lv_iload_n hx hb dX3_putOn_37 rfl (lv_at hl 3 rfl) ?_
        refine lv_aload_n hx hb dX3_putOn_38 rfl (lv_at hl 0 rfl) ?_
        refine gf_16_1 X hW (by decide) mw_240 dX3_putOn_39 ?_
        refine lv_icmp_ge (tgt := 109) hx hb dX3_putOn_42 (by decide) (fun c14 => ?_) (fun c14 => ?_)
        · replace hf := ite_t hf c14
          exact P_109 _ _ _ _ _ hW (lv_sub hl [2] rfl) hf
        · replace hf := ite_f hf c14
          refine lv_aload_n hx hb dX3_putOn_45 rfl (lv_at hl 0 rfl) ?_
          refine gf_16_0 X hW (by decide) mw_238 dX3_putOn_46 ?_
          refine lv_iload_n hx hb dX3_putOn_49 rfl (lv_at hl 3 rfl) ?_
          obtain ⟨b5, hf⟩ := chk_ex hf
          refine r_cald X hW 17 0 (by decide) (by decide) rfl b5 dX3_putOn_50 ?_
          refine lv_bipush (v := 46) hx hb dX3_putOn_51 (by decide) ?_
          refine lv_icmp_eq (tgt := 85) hx hb dX3_putOn_53 (by decide) (fun c13 => ?_) (fun c13 => ?_)
          · replace hf := ite_t hf c13
            exact P_85 _ _ _ _ _ _ hW (lv_sub hl [0, 1, 2, 3] rfl) hf
          · replace hf := ite_f hf c13
            refine lv_iload_n hx hb dX3_putOn_56 rfl (lv_at hl 2 rfl) ?_
            refine lv_bipush (v := 6) hx hb dX3_putOn_57 (by decide) ?_
            refine lv_icmp_ge (tgt := 85) hx hb dX3_putOn_59 (by decide) (fun c12 => ?_) (fun c12 => ?_)
            · replace hf := ite_t hf c12
              exact P_85 _ _ _ _ _ _ hW (lv_sub hl [0, 1, 2, 3] rfl) hf
            · replace hf := ite_f hf c12
              refine lv_aload_n hx hb dX3_putOn_62 rfl (lv_at hl 1 rfl) ?_
              refine gf_0_0 X hW ht0 mw_114 dX3_putOn_63 ?_
              refine lv_iload_n hx hb dX3_putOn_66 rfl (lv_at hl 2 rfl) ?_
              refine r_ldcS X (sx g 4) X.2.2.2.2.2.2.1.2.2.2.1.1 dX3_putOn_67 ?_
              refine lv_aload_n hx hb dX3_putOn_69 rfl (lv_at hl 0 rfl) ?_
              refine gf_16_0 X hW (by decide) mw_238 dX3_putOn_70 ?_
              refine lv_iload_n hx hb dX3_putOn_73 rfl (lv_at hl 3 rfl) ?_
              obtain ⟨b6, hf⟩ := chk_ex hf
              refine r_cald X hW 17 0 (by decide) (by decide) rfl b6 dX3_putOn_74 ?_
              obtain ⟨r8, e7, hf⟩ := bnd_ex hf
              refine k_i X hW (k_V (As := [.int (gi mm 17 0 x3.toNatClampNeg)]) (rest := [.int x2, .ref (ad g 1 t0)]) X hW hml hl.1 (c_J0_indexOf_0f7a4 l g hDW 4 (by decide) _ mm _ e7) (r_recS X hW (by decide)) ⟨mw_298, kw_J0_indexOf_0f7a4⟩ ⟨⟨rfl, rfl⟩, ko_J0_indexOf_0f7a4, ⟨Nat.le_of_ble_eq_true rfl, Nat.le_of_ble_eq_true rfl⟩⟩ rfl rfl (Nat.le_of_ble_eq_true rfl) dX3_putOn_75 ⟨Nat.le_of_ble_eq_true rfl, Nat.le_of_ble_eq_true rfl⟩) (fun H locs hW => ?_)
              obtain ⟨b10, hf⟩ := chk_ex hf
              obtain ⟨m11, ex, hf⟩ := wth_ex hf
              refine r_iast X hW 1 t0 (by decide) ht0 (fun _ => rfl) b10 dX3_putOn_78 (fun H locs hW => ?_)
              replace hW := hW.same ex
              clear ex
              refine lv_iinc (v := x2 + 1) (lv' := [(2, .int (x2 + 1)), (0, .ref (ad g 16 0)), (1, .ref (ad g 0 t0)), (3, .int x3)]) hx hb dX3_putOn_79 hl (k := 2) rfl rfl (by decide) rfl (fun ls hl => ?_)
              refine lv_goto (tgt := 103) hx hb dX3_putOn_82 (by decide) ?_
              exact P_103 _ _ _ _ _ _ hW (lv_sub hl [1, 2, 0, 3] rfl) hf
  have P_27 : ∀ (mm : gM) (H : Heap) (locs : List Loc) (ls : Array Slot), Wd g mm s H locs → lv_has ls 4 [(0, .ref (ad g 16 0)), (1, .ref (ad g 0 t0))] → jX3_putOn_27 t0 mm = some (r0, mZ) → W p l e rm_X3_putOn s m args below meth c H locs 0 0 (MQ below (CI g mZ r0) args s 0 0 (gA g)) (F0 m 27 ls []) := by
    intro mm H locs ls hW hl hf
    unfold jX3_putOn_27 at hf
    refine lv_iconst (v := 0) hx hb dX3_putOn_27 (by decide) ?_
    refine lv_istore_n (lv' := [(2, .int 0), (0, .ref (ad g 16 0)), (1, .ref (ad g 0 t0))]) hx hb dX3_putOn_28 rfl hl (by decide) rfl (fun ls hl => ?_)
    refine lv_iconst (v := 0) hx hb dX3_putOn_29 (by decide) ?_
    refine lv_istore_n (lv' := [(3, .int 0), (2, .int 0), (0, .ref (ad g 16 0)), (1, .ref (ad g 0 t0))]) hx hb dX3_putOn_30 rfl hl (by decide) rfl (fun ls hl => ?_)
    exact P_31 _ _ _ _ _ _ _ hW (lv_sub hl [2, 3, 1, 0] rfl) hf
  have P_7 : ∀ (n7 : Nat) (x2 : Int32) (mm : gM) (H : Heap) (locs : List Loc) (ls : Array Slot), Wd g mm s H locs → lv_has ls 4 [(0, .ref (ad g 16 0)), (1, .ref (ad g 0 t0)), (2, .int x2)] → lX3_putOn_7 t0 n7 x2 mm = some (r0, mZ) → W p l e rm_X3_putOn s m args below meth c H locs 0 0 (MQ below (CI g mZ r0) args s 0 0 (gA g)) (F0 m 7 ls []) := by
    intro n7
    induction n7 with
    | zero => intro x2 mm H locs ls hW hl hf; exact (no_some hf).elim
    | succ n7 ih_7 =>
      intro x2 mm H locs ls hW hl hf
      rw [lX3_putOn_7_s] at hf
      refine lv_iload_n hx hb dX3_putOn_7 rfl (lv_at hl 2 rfl) ?_
      refine lv_bipush (v := 6) hx hb dX3_putOn_8 (by decide) ?_
      refine lv_icmp_ge (tgt := 27) hx hb dX3_putOn_10 (by decide) (fun c4 => ?_) (fun c4 => ?_)
      · replace hf := ite_t hf c4
        exact P_27 _ _ _ _ hW (lv_sub hl [0, 1] rfl) hf
      · replace hf := ite_f hf c4
        refine lv_aload_n hx hb dX3_putOn_13 rfl (lv_at hl 1 rfl) ?_
        refine gf_0_0 X hW ht0 mw_114 dX3_putOn_14 ?_
        refine lv_iload_n hx hb dX3_putOn_17 rfl (lv_at hl 2 rfl) ?_
        refine lv_bipush (v := 17) hx hb dX3_putOn_18 (by decide) ?_
        obtain ⟨b2, hf⟩ := chk_ex hf
        obtain ⟨m3, ex, hf⟩ := wth_ex hf
        refine r_iast X hW 1 t0 (by decide) ht0 (fun _ => rfl) b2 dX3_putOn_20 (fun H locs hW => ?_)
        replace hW := hW.same ex
        clear ex
        refine lv_iinc (v := x2 + 1) (lv' := [(2, .int (x2 + 1)), (0, .ref (ad g 16 0)), (1, .ref (ad g 0 t0))]) hx hb dX3_putOn_21 hl (k := 2) rfl rfl (by decide) rfl (fun ls hl => ?_)
        refine lv_goto (tgt := 7) hx hb dX3_putOn_24 (by decide) ?_
        exact ih_7 _ _ _ _ _ hW (lv_sub hl [1, 2, 0] rfl) hf
  unfold fX3_putOn at hf
  refine lv_aload_n hx hb dX3_putOn_0 rfl (lv_at hl 1 rfl) ?_
  refine lv_iconst (v := 0) hx hb dX3_putOn_1 (by decide) ?_
  obtain ⟨m1, ex, hf⟩ := wth_ex hf
  refine pf_0_5 X hW ht0 mw_130 dX3_putOn_2 (fun H locs hW => ?_)
  replace hW := hW.same ex
  clear ex
  refine lv_iconst (v := 0) hx hb dX3_putOn_5 (by decide) ?_
  refine lv_istore_n (lv' := [(2, .int 0), (0, .ref (ad g 16 0)), (1, .ref (ad g 0 t0))]) hx hb dX3_putOn_6 rfl hl (by decide) rfl (fun ls hl => ?_)
  exact P_7 _ _ _ _ _ _ hW (lv_sub hl [1, 2, 0] rfl) hf
set_option maxRecDepth 100000 in
set_option maxHeartbeats 4000000 in
theorem c_X4_glowAfter (l : Launch) (g : gG) (hDW : DW g) (t0 : Nat) (ht0 : t0 < 3) (x1 : Int32) (x2 : Int32) (x3 : Int32) (x4 : Int32) (mm : gM) (r0 : Int32) (hf : fX4_glowAfter t0 x1 x2 x3 x4 mm = some r0) : Met l yX4_glowAfter (Cond.code yX4_glowAfter cX4_glowAfter 8 (some .int) :: ALLW) rm_X4_glowAfter (CPre g mm [.ref (ad g 11 t0), .int x1, .int x2, .int x3, .int x4]) (CI g mm r0) 0 0 (gA g) := by
  refine Met.ofW (cc := cX4_glowAfter) (maxL := 8) (ret := (some .int)) (by decide) rfl ?_
  intro p e s m args below meth c s₁ B hml hv
  obtain ⟨ha, hFx, hP0, hlo⟩ := hv
  have X : Cx g p s m args c meth RX4 cX4_glowAfter := Cx_of hDW hFx hlo B
  have hx := X.1
  have hb := X.2.1
  have hr := B.returns
  have hlocks := X.2.2.2.2.2.2.2
  have hW : Wd g mm s s.heap [] := ⟨hP0, va_S.rf⟩
  rw [ha, lg_entry_eq]
  have hl := lv_entry ([.ref (ad g 11 t0), .int x1, .int x2, .int x3, .int x4] : List Value) (n := 8) (Nat.le_of_ble_eq_true rfl)
  generalize (lg_sl ([.ref (ad g 11 t0), .int x1, .int x2, .int x3, .int x4] : List Value) ++ List.replicate (8 - (lg_sl ([.ref (ad g 11 t0), .int x1, .int x2, .int x3, .int x4] : List Value)).length) Slot.unset).toArray = ls at hl ⊢
  have hl : lv_has ls 8 [(0, .ref (ad g 11 t0)), (1, .int x1), (2, .int x2), (3, .int x3), (4, .int x4)] := hl
  rw [← ha]
  show W p l e rm_X4_glowAfter s m args below meth c s.heap [] 0 0 (MQ below (CI g mm r0) args s 0 0 (gA g)) (F0 m 0 ls [])
  have P_9 : ∀ (n9 : Nat) (x1 : Int32) (x4 : Int32) (x5 : Int32) (x6 : Int32) (x7 : Int32) (H : Heap) (locs : List Loc) (ls : Array Slot), Wd g mm s H locs → lv_has ls 8 [(0, .ref (ad g 11 t0)), (1, .int x1), (4, .int x4), (5, .int x5), (6, .int x6), (7, .int x7)] → lX4_glowAfter_9 t0 mm n9 x1 x4 x5 x6 x7 = some r0 → W p l e rm_X4_glowAfter s m args below meth c H locs 0 0 (MQ below (CI g mm r0) args s 0 0 (gA g)) (F0 m 9 ls []) := by
    intro n9
    induction n9 with
    | zero => intro x1 x4 x5 x6 x7 H locs ls hW hl hf; exact (no_some hf).elim
    | succ n9 ih_9 =>
      have P_46 : ∀ (x1 : Int32) (x4 : Int32) (x5 : Int32) (x7 : Int32) (s0 : Int32) (H : Heap) (locs : List Loc) (ls : Array Slot), Wd g mm s H locs → lv_has ls 8 [(0, .ref (ad g 11 t0)), (1, .int x1), (4, .int x4), (5, .int x5), (7, .int x7)] → jX4_glowAfter_46 (lX4_glowAfter_9 t0 mm n9) t0 mm x1 x4 x5 x7 s0 = some r0 → W p l e rm_X4_glowAfter s m args below meth c H locs 0 0 (MQ below (CI g mm r0) args s 0 0 (gA g)) (F0 m 46 ls [.int s0]) := by
        intro x1 x4 x5 x7 s0 H locs ls hW hl hf
        unfold jX4_glowAfter_46 at hf
        refine lv_istore (lv' := [(6, .int s0), (0, .ref (ad g 11 t0)), (1, .int x1), (4, .int x4), (5, .int x5), (7, .int x7)]) hx hb dX4_glowAfter_46 hl (by decide) rfl (fun ls hl => ?_)
        refine lv_iinc (v := x7 + 1) (lv' := [(7, .int (x7 + 1)), (6, .int s0), (0, .ref (ad g 11 t0)), (1, .int x1), (4, .int x4), (5, .int x5)]) hx hb dX4_glowAfter_48 hl (k := 5) rfl rfl (by decide) rfl (fun ls hl => ?_)
        refine lv_goto (tgt := 9) hx hb dX4_glowAfter_51 (by decide) ?_
        exact ih_9 _ _ _ _ _ _ _ _ hW (lv_sub hl [2, 3, 4, 5, 1, 0] rfl) hf
      intro x1 x4 x5 x6 x7 H locs ls hW hl hf
      rw [lX4_glowAfter_9_s] at hf
      refine lv_iload hx hb dX4_glowAfter_9 (lv_at hl 5 rfl) ?_
      refine lv_iload_n hx hb dX4_glowAfter_11 rfl (lv_at hl 1 rfl) ?_
      refine lv_icmp_ge (tgt := 54) hx hb dX4_glowAfter_12 (by decide) (fun c5 => ?_) (fun c5 => ?_)
      · replace hf := ite_t hf c5
        refine lv_iload hx hb dX4_glowAfter_54 (lv_at hl 3 rfl) ?_
        exact e_i X hr hW (someinj hf) dX4_glowAfter_56
      · replace hf := ite_f hf c5
        refine lv_aload_n hx hb dX4_glowAfter_15 rfl (lv_at hl 0 rfl) ?_
        refine lv_iload hx hb dX4_glowAfter_16 (lv_at hl 4 rfl) ?_
        refine lv_iload hx hb dX4_glowAfter_18 (lv_at hl 3 rfl) ?_
        refine lv_iload hx hb dX4_glowAfter_20 (lv_at hl 2 rfl) ?_
        obtain ⟨r2, e1, hf⟩ := bnd_ex hf
        refine k_i X hW (k_V (As := [.int x6, .int x5, .int x4]) (rest := []) X hW hml hl.1 (c_X4_glowBehind l g hDW t0 ht0 _ _ _ mm _ e1) (r_recv X hW 11 t0 (by decide) ht0 rfl rfl) ⟨mw_828, kw_X4_glowBehind⟩ ⟨⟨rfl, rfl⟩, ko_X4_glowBehind, ⟨Nat.le_of_ble_eq_true rfl, Nat.le_of_ble_eq_true rfl⟩⟩ rfl rfl (Nat.le_of_ble_eq_true rfl) dX4_glowAfter_22 ⟨Nat.le_of_ble_eq_true rfl, Nat.le_of_ble_eq_true rfl⟩) (fun H locs hW => ?_)
        refine lv_istore (lv' := [(5, .int r2), (0, .ref (ad g 11 t0)), (1, .int x1), (4, .int x4), (6, .int x6), (7, .int x7)]) hx hb dX4_glowAfter_25 hl (by decide) rfl (fun ls hl => ?_)
        refine lv_iload hx hb dX4_glowAfter_27 (lv_at hl 4 rfl) ?_
        refine lv_iconst (v := 1) hx hb dX4_glowAfter_29 (by decide) ?_
        refine lv_iadd hx hb dX4_glowAfter_30 ?_
        refine lv_aload_n hx hb dX4_glowAfter_31 rfl (lv_at hl 1 rfl) ?_
        refine gf_11_0 X hW ht0 mw_167 dX4_glowAfter_32 ?_
        refine lv_icmp_ge (tgt := 45) hx hb dX4_glowAfter_35 (by decide) (fun c4 => ?_) (fun c4 => ?_)
        · replace hf := ite_t hf c4
          refine lv_iconst (v := 0) hx hb dX4_glowAfter_45 (by decide) ?_
          exact P_46 _ _ _ _ _ _ _ _ hW (lv_sub hl [1, 2, 3, 0, 5] rfl) hf
        · replace hf := ite_f hf c4
          refine lv_iload hx hb dX4_glowAfter_38 (lv_at hl 4 rfl) ?_
          refine lv_iconst (v := 1) hx hb dX4_glowAfter_40 (by decide) ?_
          refine lv_iadd hx hb dX4_glowAfter_41 ?_
          refine lv_goto (tgt := 46) hx hb dX4_glowAfter_42 (by decide) ?_
          exact P_46 _ _ _ _ _ _ _ _ hW (lv_sub hl [1, 2, 3, 0, 5] rfl) hf
  unfold fX4_glowAfter at hf
  refine lv_iload_n hx hb dX4_glowAfter_0 rfl (lv_at hl 3 rfl) ?_
  refine lv_istore (lv' := [(5, .int x3), (0, .ref (ad g 11 t0)), (1, .int x1), (2, .int x2), (3, .int x3), (4, .int x4)]) hx hb dX4_glowAfter_1 hl (by decide) rfl (fun ls hl => ?_)
  refine lv_iload_n hx hb dX4_glowAfter_3 rfl (lv_at hl 3 rfl) ?_
  refine lv_istore (lv' := [(6, .int x2), (5, .int x3), (0, .ref (ad g 11 t0)), (1, .int x1), (2, .int x2), (3, .int x3), (4, .int x4)]) hx hb dX4_glowAfter_4 hl (by decide) rfl (fun ls hl => ?_)
  refine lv_iconst (v := 0) hx hb dX4_glowAfter_6 (by decide) ?_
  refine lv_istore (lv' := [(7, .int 0), (6, .int x2), (5, .int x3), (0, .ref (ad g 11 t0)), (1, .int x1), (2, .int x2), (3, .int x3), (4, .int x4)]) hx hb dX4_glowAfter_7 hl (by decide) rfl (fun ls hl => ?_)
  exact P_9 _ _ _ _ _ _ _ _ _ hW (lv_sub hl [3, 4, 7, 2, 1, 0] rfl) hf
set_option maxRecDepth 100000 in
set_option maxHeartbeats 4000000 in
theorem c_X5_saveState (l : Launch) (g : gG) (hDW : DW g) (mm : gM) (mZ : gM) (hf : fX5_saveState mm = some mZ) : Met l yX5_saveState (Cond.code yX5_saveState cX5_saveState 1 none :: ALLW) rm_X5_saveState (CPre g mm [.ref (ad g 12 0)]) (CV g mZ) 0 0 (gA g) := by
  refine Met.ofW (cc := cX5_saveState) (maxL := 1) (ret := none) (by decide) rfl ?_
  intro p e s m args below meth c s₁ B hml hv
  obtain ⟨ha, hFx, hP0, hlo⟩ := hv
  have X : Cx g p s m args c meth RX5 cX5_saveState := Cx_of hDW hFx hlo B
  have hx := X.1
  have hb := X.2.1
  have hr := B.returns
  have hlocks := X.2.2.2.2.2.2.2
  have hW : Wd g mm s s.heap [] := ⟨hP0, va_S.rf⟩
  rw [ha, lg_entry_eq]
  have hl := lv_entry ([.ref (ad g 12 0)] : List Value) (n := 1) (Nat.le_of_ble_eq_true rfl)
  generalize (lg_sl ([.ref (ad g 12 0)] : List Value) ++ List.replicate (1 - (lg_sl ([.ref (ad g 12 0)] : List Value)).length) Slot.unset).toArray = ls at hl ⊢
  have hl : lv_has ls 1 [(0, .ref (ad g 12 0))] := hl
  rw [← ha]
  show W p l e rm_X5_saveState s m args below meth c s.heap [] 0 0 (MQ below (CV g mZ) args s 0 0 (gA g)) (F0 m 0 ls [])
  have P_35 : ∀ (s1 : Int32) (mm : gM) (H : Heap) (locs : List Loc) (ls : Array Slot), Wd g mm s H locs → lv_has ls 1 [(0, .ref (ad g 12 0))] → jX5_saveState_35 s1 mm = some mZ → W p l e rm_X5_saveState s m args below meth c H locs 0 0 (MQ below (CV g mZ) args s 0 0 (gA g)) (F0 m 35 ls [.int s1, .ref (ad g 12 0)]) := by
    intro s1 mm H locs ls hW hl hf
    unfold jX5_saveState_35 at hf
    obtain ⟨m7, ex, hf⟩ := wth_ex hf
    refine pf_12_10 X hW (by decide) mw_261 dX5_saveState_35 (fun H locs hW => ?_)
    replace hW := hW.same ex
    clear ex
    refine lv_aload_n hx hb dX5_saveState_38 rfl (lv_at hl 0 rfl) ?_
    refine lv_aload_n hx hb dX5_saveState_39 rfl (lv_at hl 0 rfl) ?_
    refine gf_12_9 X hW (by decide) mw_260 dX5_saveState_40 ?_
    refine lv_iconst (v := 1) hx hb dX5_saveState_43 (by decide) ?_
    refine lv_iadd hx hb dX5_saveState_44 ?_
    refine lv_bipush (v := 6) hx hb dX5_saveState_45 (by decide) ?_
    refine r_mn X hml hl.1 mw_555 kw_mn (Nat.le_of_ble_eq_true rfl) (Nat.le_of_ble_eq_true rfl) (Nat.le_of_ble_eq_true rfl) (Nat.le_of_ble_eq_true rfl) dX5_saveState_47 ?_
    obtain ⟨m8, ex, hf⟩ := wth_ex hf
    refine pf_12_9 X hW (by decide) mw_260 dX5_saveState_50 (fun H locs hW => ?_)
    replace hW := hW.same ex
    clear ex
    refine lv_aload_n hx hb dX5_saveState_53 rfl (lv_at hl 0 rfl) ?_
    refine gf_12_0 X hW (by decide) mw_251 dX5_saveState_54 ?_
    obtain ⟨m11, e9, hf⟩ := bnd_ex hf
    refine k_v X hW (k_V (As := []) (rest := []) X hW hml hl.1 (c_X1_forget l g hDW 0 (by decide)  m8 _ e9) (r_recv X hW 6 0 (by decide) (by decide) rfl rfl) ⟨mw_619, kw_X1_forget⟩ ⟨⟨rfl, rfl⟩, ko_X1_forget, ⟨Nat.le_of_ble_eq_true rfl, Nat.le_of_ble_eq_true rfl⟩⟩ rfl rfl (Nat.le_of_ble_eq_true rfl) dX5_saveState_57 ⟨Nat.le_of_ble_eq_true rfl, Nat.le_of_ble_eq_true rfl⟩) (fun H locs hW => ?_)
    replace hW := hW.same (someinj hf).symm
    exact e_v X hr hW dX5_saveState_60
  unfold fX5_saveState at hf
  refine lv_aload_n hx hb dX5_saveState_0 rfl (lv_at hl 0 rfl) ?_
  refine gf_12_8 X hW (by decide) mw_259 dX5_saveState_1 ?_
  refine lv_aload_n hx hb dX5_saveState_4 rfl (lv_at hl 0 rfl) ?_
  refine gf_12_10 X hW (by decide) mw_261 dX5_saveState_5 ?_
  obtain ⟨b1, hf⟩ := chk_ex hf
  refine r_aald_20 X hW b1 dX5_saveState_8 ?_
  have q2 : 4 + (gi mm 12 0 10).toNatClampNeg < 10 := by have := vp_in_lt b1; omega
  refine lv_aload_n hx hb dX5_saveState_9 rfl (lv_at hl 0 rfl) ?_
  refine gf_12_1 X hW (by decide) mw_252 dX5_saveState_10 ?_
  obtain ⟨m5, e3, hf⟩ := bnd_ex hf
  refine k_v X hW (k_V (As := [.ref (ad g 0 0)]) (rest := []) X hW hml hl.1 (c_X2_copyFrom l g hDW (4 + (gi mm 12 0 10).toNatClampNeg) q2 0 (by decide)  mm _ e3) (r_recv X hW 0 (4 + (gi mm 12 0 10).toNatClampNeg) (by decide) q2 rfl rfl) ⟨mw_612, kw_X2_copyFrom⟩ ⟨⟨rfl, rfl⟩, ko_X2_copyFrom, ⟨Nat.le_of_ble_eq_true rfl, Nat.le_of_ble_eq_true rfl⟩⟩ rfl rfl (Nat.le_of_ble_eq_true rfl) dX5_saveState_13 ⟨Nat.le_of_ble_eq_true rfl, Nat.le_of_ble_eq_true rfl⟩) (fun H locs hW => ?_)
  refine lv_aload_n hx hb dX5_saveState_16 rfl (lv_at hl 0 rfl) ?_
  refine lv_aload_n hx hb dX5_saveState_17 rfl (lv_at hl 0 rfl) ?_
  refine gf_12_10 X hW (by decide) mw_261 dX5_saveState_18 ?_
  refine lv_iconst (v := 5) hx hb dX5_saveState_21 (by decide) ?_
  refine lv_icmp_ge (tgt := 34) hx hb dX5_saveState_22 (by decide) (fun c6 => ?_) (fun c6 => ?_)
  · replace hf := ite_t hf c6
    refine lv_iconst (v := 0) hx hb dX5_saveState_34 (by decide) ?_
    exact P_35 _ _ _ _ _ hW (lv_sub hl [0] rfl) hf
  · replace hf := ite_f hf c6
    refine lv_aload_n hx hb dX5_saveState_25 rfl (lv_at hl 0 rfl) ?_
    refine gf_12_10 X hW (by decide) mw_261 dX5_saveState_26 ?_
    refine lv_iconst (v := 1) hx hb dX5_saveState_29 (by decide) ?_
    refine lv_iadd hx hb dX5_saveState_30 ?_
    refine lv_goto (tgt := 35) hx hb dX5_saveState_31 (by decide) ?_
    exact P_35 _ _ _ _ _ hW (lv_sub hl [0] rfl) hf
set_option maxRecDepth 100000 in
set_option maxHeartbeats 4000000 in
theorem c_X5_fadeAndLight (l : Launch) (g : gG) (hDW : DW g) (x1 : Int32) (mm : gM) (mZ : gM) (hf : fX5_fadeAndLight x1 mm = some mZ) : Met l yX5_fadeAndLight (Cond.code yX5_fadeAndLight cX5_fadeAndLight 5 none :: ALLW) rm_X5_fadeAndLight (CPre g mm [.ref (ad g 12 0), .int x1]) (CV g mZ) 0 0 (gA g) := by
  refine Met.ofW (cc := cX5_fadeAndLight) (maxL := 5) (ret := none) (by decide) rfl ?_
  intro p e s m args below meth c s₁ B hml hv
  obtain ⟨ha, hFx, hP0, hlo⟩ := hv
  have X : Cx g p s m args c meth RX5 cX5_fadeAndLight := Cx_of hDW hFx hlo B
  have hx := X.1
  have hb := X.2.1
  have hr := B.returns
  have hlocks := X.2.2.2.2.2.2.2
  have hW : Wd g mm s s.heap [] := ⟨hP0, va_S.rf⟩
  rw [ha, lg_entry_eq]
  have hl := lv_entry ([.ref (ad g 12 0), .int x1] : List Value) (n := 5) (Nat.le_of_ble_eq_true rfl)
  generalize (lg_sl ([.ref (ad g 12 0), .int x1] : List Value) ++ List.replicate (5 - (lg_sl ([.ref (ad g 12 0), .int x1] : List Value)).length) Slot.unset).toArray = ls at hl ⊢
  have hl : lv_has ls 5 [(0, .ref (ad g 12 0)), (1, .int x1)] := hl
  rw [← ha]
  show W p l e rm_X5_fadeAndLight s m args below meth c s.heap [] 0 0 (MQ below (CV g mZ) args s 0 0 (gA g)) (F0 m 0 ls [])
  have P_2 : ∀ (n2 : Nat) (x1 : Int32) (x2 : Int32) (mm : gM) (H : Heap) (locs : List Loc) (ls : Array Slot), Wd g mm s H locs → lv_has ls 5 [(0, .ref (ad g 12 0)), (1, .int x1), (2, .int x2)] → lX5_fadeAndLight_2 n2 x1 x2 mm = some mZ → W p l e rm_X5_fadeAndLight s m args below meth c H locs 0 0 (MQ below (CV g mZ) args s 0 0 (gA g)) (F0 m 2 ls []) := by
    intro n2
    induction n2 with
    | zero => intro x1 x2 mm H locs ls hW hl hf; exact (no_some hf).elim
    | succ n2 ih_2 =>
      have P_82 : ∀ (x1 : Int32) (x2 : Int32) (mm : gM) (H : Heap) (locs : List Loc) (ls : Array Slot), Wd g mm s H locs → lv_has ls 5 [(0, .ref (ad g 12 0)), (1, .int x1), (2, .int x2)] → jX5_fadeAndLight_82 (lX5_fadeAndLight_2 n2) x1 x2 mm = some mZ → W p l e rm_X5_fadeAndLight s m args below meth c H locs 0 0 (MQ below (CV g mZ) args s 0 0 (gA g)) (F0 m 82 ls []) := by
        intro x1 x2 mm H locs ls hW hl hf
        unfold jX5_fadeAndLight_82 at hf
        refine lv_iinc (v := x2 + 1) (lv' := [(2, .int (x2 + 1)), (0, .ref (ad g 12 0)), (1, .int x1)]) hx hb dX5_fadeAndLight_82 hl (k := 2) rfl rfl (by decide) rfl (fun ls hl => ?_)
        refine lv_goto (tgt := 2) hx hb dX5_fadeAndLight_85 (by decide) ?_
        exact ih_2 _ _ _ _ _ _ hW (lv_sub hl [1, 2, 0] rfl) hf
      have P_22 : ∀ (n22 : Nat) (x1 : Int32) (x2 : Int32) (x3 : Int32) (mm : gM) (H : Heap) (locs : List Loc) (ls : Array Slot), Wd g mm s H locs → lv_has ls 5 [(0, .ref (ad g 12 0)), (1, .int x1), (2, .int x2), (3, .int x3)] → lX5_fadeAndLight_22 (lX5_fadeAndLight_2 n2) n22 x1 x2 x3 mm = some mZ → W p l e rm_X5_fadeAndLight s m args below meth c H locs 0 0 (MQ below (CV g mZ) args s 0 0 (gA g)) (F0 m 22 ls []) := by
        intro n22
        induction n22 with
        | zero => intro x1 x2 x3 mm H locs ls hW hl hf; exact (no_some hf).elim
        | succ n22 ih_22 =>
          intro x1 x2 x3 mm H locs ls hW hl hf
          rw [lX5_fadeAndLight_22_s] at hf
          refine lv_iload_n hx hb dX5_fadeAndLight_22 rfl (lv_at hl 3 rfl) ?_
          refine lv_bipush (v := 8) hx hb dX5_fadeAndLight_23 (by decide) ?_
          refine lv_icmp_ge (tgt := 82) hx hb dX5_fadeAndLight_25 (by decide) (fun c12 => ?_) (fun c12 => ?_)
          · replace hf := ite_t hf c12
            exact P_82 _ _ _ _ _ _ hW (lv_sub hl [0, 1, 2] rfl) hf
          · replace hf := ite_f hf c12
            refine lv_aload_n hx hb dX5_fadeAndLight_28 rfl (lv_at hl 0 rfl) ?_
            refine gf_12_1 X hW (by decide) mw_252 dX5_fadeAndLight_29 ?_
            refine gf_0_3 X hW (by decide) mw_123 dX5_fadeAndLight_32 ?_
            refine lv_iload_n hx hb dX5_fadeAndLight_35 rfl (lv_at hl 2 rfl) ?_
            refine lv_bipush (v := 8) hx hb dX5_fadeAndLight_36 (by decide) ?_
            refine lv_imul hx hb dX5_fadeAndLight_38 ?_
            refine lv_iload_n hx hb dX5_fadeAndLight_39 rfl (lv_at hl 3 rfl) ?_
            refine lv_iadd hx hb dX5_fadeAndLight_40 ?_
            obtain ⟨b5, hf⟩ := chk_ex hf
            refine r_iald X hW 4 0 (by decide) (by decide) rfl b5 dX5_fadeAndLight_41 ?_
            obtain ⟨v6, ex, hf⟩ := wth_ex hf
            refine lv_nm ex ?_
            clear ex
            refine lv_istore (lv' := [(4, .int v6), (0, .ref (ad g 12 0)), (1, .int x1), (2, .int x2), (3, .int x3)]) hx hb dX5_fadeAndLight_42 hl (by decide) rfl (fun ls hl => ?_)
            refine lv_aload_n hx hb dX5_fadeAndLight_44 rfl (lv_at hl 1 rfl) ?_
            refine gf_12_1 X hW (by decide) mw_252 dX5_fadeAndLight_45 ?_
            refine gf_0_3 X hW (by decide) mw_123 dX5_fadeAndLight_48 ?_
            refine lv_iload_n hx hb dX5_fadeAndLight_51 rfl (lv_at hl 3 rfl) ?_
            refine lv_bipush (v := 8) hx hb dX5_fadeAndLight_52 (by decide) ?_
            refine lv_imul hx hb dX5_fadeAndLight_54 ?_
            refine lv_iload_n hx hb dX5_fadeAndLight_55 rfl (lv_at hl 4 rfl) ?_
            refine lv_iadd hx hb dX5_fadeAndLight_56 ?_
            refine lv_aload_n hx hb dX5_fadeAndLight_57 rfl (lv_at hl 1 rfl) ?_
            refine gf_12_4 X hW (by decide) mw_255 dX5_fadeAndLight_58 ?_
            refine lv_iload_n hx hb dX5_fadeAndLight_61 rfl (lv_at hl 2 rfl) ?_
            refine lv_aload_n hx hb dX5_fadeAndLight_62 rfl (lv_at hl 1 rfl) ?_
            refine gf_12_1 X hW (by decide) mw_252 dX5_fadeAndLight_63 ?_
            refine gf_0_8 X hW (by decide) mw_136 dX5_fadeAndLight_66 ?_
            refine lv_iload hx hb dX5_fadeAndLight_69 (lv_at hl 0 rfl) ?_
            refine lv_iload_n hx hb dX5_fadeAndLight_71 rfl (lv_at hl 4 rfl) ?_
            obtain ⟨r8, e7, hf⟩ := bnd_ex hf
            refine k_i X hW (k_V (As := [.int x1, .int (gi mm 0 0 8), .int v6, .int x3]) (rest := [.int ((x2 * 8) + x3), .ref (ad g 4 0)]) X hW hml hl.1 (c_X4_glowAfter l g hDW 2 (by decide) _ _ _ _ mm _ e7) (r_recv X hW 11 2 (by decide) (by decide) rfl rfl) ⟨mw_824, kw_X4_glowAfter⟩ ⟨⟨rfl, rfl⟩, ko_X4_glowAfter, ⟨Nat.le_of_ble_eq_true rfl, Nat.le_of_ble_eq_true rfl⟩⟩ rfl rfl (Nat.le_of_ble_eq_true rfl) dX5_fadeAndLight_72 ⟨Nat.le_of_ble_eq_true rfl, Nat.le_of_ble_eq_true rfl⟩) (fun H locs hW => ?_)
            obtain ⟨b10, hf⟩ := chk_ex hf
            obtain ⟨m11, ex, hf⟩ := wth_ex hf
            refine r_iast X hW 4 0 (by decide) (by decide) (fun _ => rfl) b10 dX5_fadeAndLight_75 (fun H locs hW => ?_)
            replace hW := hW.same ex
            clear ex
            refine lv_iinc (v := x3 + 1) (lv' := [(3, .int (x3 + 1)), (4, .int v6), (0, .ref (ad g 12 0)), (1, .int x1), (2, .int x2)]) hx hb dX5_fadeAndLight_76 hl (k := 4) rfl rfl (by decide) rfl (fun ls hl => ?_)
            refine lv_goto (tgt := 22) hx hb dX5_fadeAndLight_79 (by decide) ?_
            exact ih_22 _ _ _ _ _ _ _ hW (lv_sub hl [2, 3, 4, 0] rfl) hf
      intro x1 x2 mm H locs ls hW hl hf
      rw [lX5_fadeAndLight_2_s] at hf
      refine lv_iload_n hx hb dX5_fadeAndLight_2 rfl (lv_at hl 2 rfl) ?_
      refine lv_bipush (v := 6) hx hb dX5_fadeAndLight_3 (by decide) ?_
      refine lv_icmp_ge (tgt := 88) hx hb dX5_fadeAndLight_5 (by decide) (fun c4 => ?_) (fun c4 => ?_)
      · replace hf := ite_t hf c4
        replace hW := hW.same (someinj hf).symm
        exact e_v X hr hW dX5_fadeAndLight_88
      · replace hf := ite_f hf c4
        refine lv_aload_n hx hb dX5_fadeAndLight_8 rfl (lv_at hl 0 rfl) ?_
        refine gf_12_4 X hW (by decide) mw_255 dX5_fadeAndLight_9 ?_
        refine lv_aload_n hx hb dX5_fadeAndLight_12 rfl (lv_at hl 0 rfl) ?_
        refine gf_12_1 X hW (by decide) mw_252 dX5_fadeAndLight_13 ?_
        refine lv_iload_n hx hb dX5_fadeAndLight_16 rfl (lv_at hl 2 rfl) ?_
        obtain ⟨m3, e1, hf⟩ := bnd_ex hf
        refine k_v X hW (k_V (As := [.ref (ad g 0 0), .int x2]) (rest := []) X hW hml hl.1 (c_X4_take l g hDW 2 (by decide) 0 (by decide) _ mm _ e1) (r_recv X hW 11 2 (by decide) (by decide) rfl rfl) ⟨mw_823, kw_X4_take⟩ ⟨⟨rfl, rfl⟩, ko_X4_take, ⟨Nat.le_of_ble_eq_true rfl, Nat.le_of_ble_eq_true rfl⟩⟩ rfl rfl (Nat.le_of_ble_eq_true rfl) dX5_fadeAndLight_17 ⟨Nat.le_of_ble_eq_true rfl, Nat.le_of_ble_eq_true rfl⟩) (fun H locs hW => ?_)
        refine lv_iconst (v := 0) hx hb dX5_fadeAndLight_20 (by decide) ?_
        refine lv_istore_n (lv' := [(3, .int 0), (0, .ref (ad g 12 0)), (1, .int x1), (2, .int x2)]) hx hb dX5_fadeAndLight_21 rfl hl (by decide) rfl (fun ls hl => ?_)
        exact P_22 _ _ _ _ _ _ _ _ hW (lv_sub hl [1, 2, 3, 0] rfl) hf
  unfold fX5_fadeAndLight at hf
  refine lv_iconst (v := 0) hx hb dX5_fadeAndLight_0 (by decide) ?_
  refine lv_istore_n (lv' := [(2, .int 0), (0, .ref (ad g 12 0)), (1, .int x1)]) hx hb dX5_fadeAndLight_1 rfl hl (by decide) rfl (fun ls hl => ?_)
  exact P_2 _ _ _ _ _ _ _ hW (lv_sub hl [1, 2, 0] rfl) hf
set_option maxRecDepth 100000 in
set_option maxHeartbeats 4000000 in
theorem c_X5_clearBuffer (l : Launch) (g : gG) (hDW : DW g) (mm : gM) (r0 : Int32) (mZ : gM) (hf : fX5_clearBuffer mm = some (r0, mZ)) : Met l yX5_clearBuffer (Cond.code yX5_clearBuffer cX5_clearBuffer 2 (some .int) :: ALLW) rm_X5_clearBuffer (CPre g mm [.ref (ad g 12 0)]) (CI g mZ r0) 0 0 (gA g) := by
  refine Met.ofW (cc := cX5_clearBuffer) (maxL := 2) (ret := (some .int)) (by decide) rfl ?_
  intro p e s m args below meth c s₁ B hml hv
  obtain ⟨ha, hFx, hP0, hlo⟩ := hv
  have X : Cx g p s m args c meth RX5 cX5_clearBuffer := Cx_of hDW hFx hlo B
  have hx := X.1
  have hb := X.2.1
  have hr := B.returns
  have hlocks := X.2.2.2.2.2.2.2
  have hW : Wd g mm s s.heap [] := ⟨hP0, va_S.rf⟩
  rw [ha, lg_entry_eq]
  have hl := lv_entry ([.ref (ad g 12 0)] : List Value) (n := 2) (Nat.le_of_ble_eq_true rfl)
  generalize (lg_sl ([.ref (ad g 12 0)] : List Value) ++ List.replicate (2 - (lg_sl ([.ref (ad g 12 0)] : List Value)).length) Slot.unset).toArray = ls at hl ⊢
  have hl : lv_has ls 2 [(0, .ref (ad g 12 0))] := hl
  rw [← ha]
  show W p l e rm_X5_clearBuffer s m args below meth c s.heap [] 0 0 (MQ below (CI g mZ r0) args s 0 0 (gA g)) (F0 m 0 ls [])
  unfold fX5_clearBuffer at hf
  refine lv_aload_n hx hb dX5_clearBuffer_0 rfl (lv_at hl 0 rfl) ?_
  refine gf_12_5 X hW (by decide) mw_256 dX5_clearBuffer_1 ?_
  refine gf_16_1 X hW (by decide) mw_241 dX5_clearBuffer_4 ?_
  refine lv_istore_n (lv' := [(1, .int (gi mm 16 0 1)), (0, .ref (ad g 12 0))]) hx hb dX5_clearBuffer_7 rfl hl (by decide) rfl (fun ls hl => ?_)
  refine lv_aload_n hx hb dX5_clearBuffer_8 rfl (lv_at hl 1 rfl) ?_
  refine gf_12_5 X hW (by decide) mw_256 dX5_clearBuffer_9 ?_
  refine lv_iconst (v := 0) hx hb dX5_clearBuffer_12 (by decide) ?_
  obtain ⟨m1, ex, hf⟩ := wth_ex hf
  refine pf_16_1 X hW (by decide) mw_241 dX5_clearBuffer_13 (fun H locs hW => ?_)
  replace hW := hW.same ex
  clear ex
  refine lv_iload_n hx hb dX5_clearBuffer_16 rfl (lv_at hl 0 rfl) ?_
  obtain ⟨hf, hm⟩ := prinj hf
  replace hW := hW.same hm.symm
  exact e_i X hr hW (hf) dX5_clearBuffer_17
set_option maxRecDepth 100000 in
set_option maxHeartbeats 4000000 in
theorem c_X5_firstError (l : Launch) (g : gG) (hDW : DW g) (mm : gM) (r0 : Int32) (hf : fX5_firstError mm = some r0) : Met l yX5_firstError (Cond.code yX5_firstError cX5_firstError 1 (some .int) :: ALLW) rm_X5_firstError (CPre g mm [.ref (ad g 12 0)]) (CI g mm r0) 0 0 (gA g) := by
  refine Met.ofW (cc := cX5_firstError) (maxL := 1) (ret := (some .int)) (by decide) rfl ?_
  intro p e s m args below meth c s₁ B hml hv
  obtain ⟨ha, hFx, hP0, hlo⟩ := hv
  have X : Cx g p s m args c meth RX5 cX5_firstError := Cx_of hDW hFx hlo B
  have hx := X.1
  have hb := X.2.1
  have hr := B.returns
  have hlocks := X.2.2.2.2.2.2.2
  have hW : Wd g mm s s.heap [] := ⟨hP0, va_S.rf⟩
  rw [ha, lg_entry_eq]
  have hl := lv_entry ([.ref (ad g 12 0)] : List Value) (n := 1) (Nat.le_of_ble_eq_true rfl)
  generalize (lg_sl ([.ref (ad g 12 0)] : List Value) ++ List.replicate (1 - (lg_sl ([.ref (ad g 12 0)] : List Value)).length) Slot.unset).toArray = ls at hl ⊢
  have hl : lv_has ls 1 [(0, .ref (ad g 12 0))] := hl
  rw [← ha]
  show W p l e rm_X5_firstError s m args below meth c s.heap [] 0 0 (MQ below (CI g mm r0) args s 0 0 (gA g)) (F0 m 0 ls [])
  unfold fX5_firstError at hf
  refine lv_aload_n hx hb dX5_firstError_0 rfl (lv_at hl 0 rfl) ?_
  refine gf_12_5 X hW (by decide) mw_256 dX5_firstError_1 ?_
  obtain ⟨r2, e1, hf⟩ := bnd_ex hf
  refine k_i X hW (k_V (As := []) (rest := []) X hW hml hl.1 (c_X3_errorAt l g hDW   mm _ e1) (r_recv X hW 16 0 (by decide) (by decide) rfl rfl) ⟨mw_293, kw_X3_errorAt⟩ ⟨⟨rfl, rfl⟩, ko_X3_errorAt, ⟨Nat.le_of_ble_eq_true rfl, Nat.le_of_ble_eq_true rfl⟩⟩ rfl rfl (Nat.le_of_ble_eq_true rfl) dX5_firstError_4 ⟨Nat.le_of_ble_eq_true rfl, Nat.le_of_ble_eq_true rfl⟩) (fun H locs hW => ?_)
  exact e_i X hr hW (someinj hf) dX5_firstError_7
set_option maxRecDepth 100000 in
set_option maxHeartbeats 4000000 in
theorem c_J3_checkIndex_8e157 (l : Launch) (g : gG) (hDW : DW g) (w0 : Option Nat) (x0 : Int32) (x1 : Int32) (mm : gM) (r0 : Int32) (hf : fJ3_checkIndex_8e157 x0 x1 = some r0) : Met l yJ3_checkIndex_8e157 (Cond.code yJ3_checkIndex_8e157 cJ3_checkIndex_8e157 3 (some .int) :: ALLW) rm_J3_checkIndex_8e157 (CPre g mm [.int x0, .int x1, va_rf w0]) (CI g mm r0) 0 0 (gA g) := by
  rcases w0 with _ | w0
  · show Met l yJ3_checkIndex_8e157 (Cond.code yJ3_checkIndex_8e157 cJ3_checkIndex_8e157 3 (some .int) :: ALLW) rm_J3_checkIndex_8e157 (CPre g mm [.int x0, .int x1, .null]) (CI g mm r0) 0 0 (gA g)
    refine Met.ofW (cc := cJ3_checkIndex_8e157) (maxL := 3) (ret := (some .int)) (by decide) rfl ?_
    intro p e s m args below meth c s₁ B hml hv
    obtain ⟨ha, hFx, hP0, hlo⟩ := hv
    have X : Cx g p s m args c meth RJ3 cJ3_checkIndex_8e157 := Cx_of hDW hFx hlo B
    have hx := X.1
    have hb := X.2.1
    have hr := B.returns
    have hlocks := X.2.2.2.2.2.2.2
    have hW : Wd g mm s s.heap [] := ⟨hP0, va_S.rf⟩
    rw [ha, lg_entry_eq]
    have hl := lv_entry ([.int x0, .int x1, .null] : List Value) (n := 3) (Nat.le_of_ble_eq_true rfl)
    generalize (lg_sl ([.int x0, .int x1, .null] : List Value) ++ List.replicate (3 - (lg_sl ([.int x0, .int x1, .null] : List Value)).length) Slot.unset).toArray = ls at hl ⊢
    have hl : lv_has ls 3 [(0, .int x0), (1, .int x1), (2, .null)] := hl
    rw [← ha]
    show W p l e rm_J3_checkIndex_8e157 s m args below meth c s.heap [] 0 0 (MQ below (CI g mm r0) args s 0 0 (gA g)) (F0 m 0 ls [])
    have P_9 : ∀ (x0 : Int32) (x1 : Int32) (H : Heap) (locs : List Loc) (ls : Array Slot), Wd g mm s H locs → lv_has ls 3 [(0, .int x0), (1, .int x1), (2, .null)] → jJ3_checkIndex_8e157_9 x0 x1 = some r0 → W p l e rm_J3_checkIndex_8e157 s m args below meth c H locs 0 0 (MQ below (CI g mm r0) args s 0 0 (gA g)) (F0 m 9 ls []) := by
      intro x0 x1 H locs ls hW hl hf
      unfold jJ3_checkIndex_8e157_9 at hf
      exact (no_some hf).elim
    unfold fJ3_checkIndex_8e157 at hf
    refine lv_iload_n hx hb dJ3_checkIndex_8e157_0 rfl (lv_at hl 0 rfl) ?_
    refine lv_if_lt (tgt := 9) hx hb dJ3_checkIndex_8e157_1 (by decide) (fun c2 => ?_) (fun c2 => ?_)
    · replace hf := ite_t hf c2
      exact P_9 _ _ _ _ _ hW (lv_sub hl [0, 1, 2] rfl) hf
    · replace hf := ite_f hf c2
      refine lv_iload_n hx hb dJ3_checkIndex_8e157_4 rfl (lv_at hl 0 rfl) ?_
      refine lv_iload_n hx hb dJ3_checkIndex_8e157_5 rfl (lv_at hl 1 rfl) ?_
      refine lv_icmp_lt (tgt := 16) hx hb dJ3_checkIndex_8e157_6 (by decide) (fun c1 => ?_) (fun c1 => ?_)
      · replace hf := ite_t hf c1
        refine lv_iload_n hx hb dJ3_checkIndex_8e157_16 rfl (lv_at hl 0 rfl) ?_
        exact e_i X hr hW (someinj hf) dJ3_checkIndex_8e157_17
      · replace hf := ite_f hf c1
        exact P_9 _ _ _ _ _ hW (lv_sub hl [0, 1, 2] rfl) hf
  · show Met l yJ3_checkIndex_8e157 (Cond.code yJ3_checkIndex_8e157 cJ3_checkIndex_8e157 3 (some .int) :: ALLW) rm_J3_checkIndex_8e157 (CPre g mm [.int x0, .int x1, .ref w0]) (CI g mm r0) 0 0 (gA g)
    refine Met.ofW (cc := cJ3_checkIndex_8e157) (maxL := 3) (ret := (some .int)) (by decide) rfl ?_
    intro p e s m args below meth c s₁ B hml hv
    obtain ⟨ha, hFx, hP0, hlo⟩ := hv
    have X : Cx g p s m args c meth RJ3 cJ3_checkIndex_8e157 := Cx_of hDW hFx hlo B
    have hx := X.1
    have hb := X.2.1
    have hr := B.returns
    have hlocks := X.2.2.2.2.2.2.2
    have hW : Wd g mm s s.heap [] := ⟨hP0, va_S.rf⟩
    rw [ha, lg_entry_eq]
    have hl := lv_entry ([.int x0, .int x1, .ref w0] : List Value) (n := 3) (Nat.le_of_ble_eq_true rfl)
    generalize (lg_sl ([.int x0, .int x1, .ref w0] : List Value) ++ List.replicate (3 - (lg_sl ([.int x0, .int x1, .ref w0] : List Value)).length) Slot.unset).toArray = ls at hl ⊢
    have hl : lv_has ls 3 [(0, .int x0), (1, .int x1), (2, .ref w0)] := hl
    rw [← ha]
    show W p l e rm_J3_checkIndex_8e157 s m args below meth c s.heap [] 0 0 (MQ below (CI g mm r0) args s 0 0 (gA g)) (F0 m 0 ls [])
    have P_9 : ∀ (x0 : Int32) (x1 : Int32) (H : Heap) (locs : List Loc) (ls : Array Slot), Wd g mm s H locs → lv_has ls 3 [(0, .int x0), (1, .int x1), (2, .ref w0)] → jJ3_checkIndex_8e157_9 x0 x1 = some r0 → W p l e rm_J3_checkIndex_8e157 s m args below meth c H locs 0 0 (MQ below (CI g mm r0) args s 0 0 (gA g)) (F0 m 9 ls []) := by
      intro x0 x1 H locs ls hW hl hf
      unfold jJ3_checkIndex_8e157_9 at hf
      exact (no_some hf).elim
    unfold fJ3_checkIndex_8e157 at hf
    refine lv_iload_n hx hb dJ3_checkIndex_8e157_0 rfl (lv_at hl 0 rfl) ?_
    refine lv_if_lt (tgt := 9) hx hb dJ3_checkIndex_8e157_1 (by decide) (fun c2 => ?_) (fun c2 => ?_)
    · replace hf := ite_t hf c2
      exact P_9 _ _ _ _ _ hW (lv_sub hl [0, 1, 2] rfl) hf
    · replace hf := ite_f hf c2
      refine lv_iload_n hx hb dJ3_checkIndex_8e157_4 rfl (lv_at hl 0 rfl) ?_
      refine lv_iload_n hx hb dJ3_checkIndex_8e157_5 rfl (lv_at hl 1 rfl) ?_
      refine lv_icmp_lt (tgt := 16) hx hb dJ3_checkIndex_8e157_6 (by decide) (fun c1 => ?_) (fun c1 => ?_)
      · replace hf := ite_t hf c1
        refine lv_iload_n hx hb dJ3_checkIndex_8e157_16 rfl (lv_at hl 0 rfl) ?_
        exact e_i X hr hW (someinj hf) dJ3_checkIndex_8e157_17
      · replace hf := ite_f hf c1
        exact P_9 _ _ _ _ _ hW (lv_sub hl [0, 1, 2] rfl) hf
set_option maxRecDepth 100000 in
set_option maxHeartbeats 4000000 in
theorem c_J0_checkIndex_df160 (l : Launch) (g : gG) (hDW : DW g) (x0 : Int32) (x1 : Int32) (mm : gM) (hf : fJ0_checkIndex_df160 x0 x1 = some ()) : Met l yJ0_checkIndex_df160 (Cond.code yJ0_checkIndex_df160 cJ0_checkIndex_df160 2 none :: ALLW) rm_J0_checkIndex_df160 (CPre g mm [.int x0, .int x1]) (CV g mm) 0 0 (gA g) := by
  refine Met.ofW (cc := cJ0_checkIndex_df160) (maxL := 2) (ret := none) (by decide) rfl ?_
  intro p e s m args below meth c s₁ B hml hv
  obtain ⟨ha, hFx, hP0, hlo⟩ := hv
  have X : Cx g p s m args c meth RJ0 cJ0_checkIndex_df160 := Cx_of hDW hFx hlo B
  have hx := X.1
  have hb := X.2.1
  have hr := B.returns
  have hlocks := X.2.2.2.2.2.2.2
  have hW : Wd g mm s s.heap [] := ⟨hP0, va_S.rf⟩
  rw [ha, lg_entry_eq]
  have hl := lv_entry ([.int x0, .int x1] : List Value) (n := 2) (Nat.le_of_ble_eq_true rfl)
  generalize (lg_sl ([.int x0, .int x1] : List Value) ++ List.replicate (2 - (lg_sl ([.int x0, .int x1] : List Value)).length) Slot.unset).toArray = ls at hl ⊢
  have hl : lv_has ls 2 [(0, .int x0), (1, .int x1)] := hl
  rw [← ha]
  show W p l e rm_J0_checkIndex_df160 s m args below meth c s.heap [] 0 0 (MQ below (CV g mm) args s 0 0 (gA g)) (F0 m 0 ls [])
  unfold fJ0_checkIndex_df160 at hf
  refine lv_iload_n hx hb dJ0_checkIndex_df160_0 rfl (lv_at hl 0 rfl) ?_
  refine lv_iload_n hx hb dJ0_checkIndex_df160_1 rfl (lv_at hl 1 rfl) ?_
  refine r_fmt X hW mw_353 dJ0_checkIndex_df160_2 (fun w1 => ?_)
  obtain ⟨r3, e2, hf⟩ := bnd_ex hf
  refine k_i X hW (k_S (As := [.int x0, .int x1, va_rf w1]) (rest := []) X hW hml hl.1 (c_J3_checkIndex_8e157 l g hDW w1  _ _ mm _ e2) ⟨mw_476, kw_J3_checkIndex_8e157⟩ ⟨⟨rfl, rfl⟩, ko_J3_checkIndex_8e157, ⟨Nat.le_of_ble_eq_true rfl, Nat.le_of_ble_eq_true rfl⟩⟩ rfl rfl (Nat.le_of_ble_eq_true rfl) dJ0_checkIndex_df160_5 ⟨Nat.le_of_ble_eq_true rfl, Nat.le_of_ble_eq_true rfl⟩) (fun H locs hW => ?_)
  refine lv_pop hx hb dJ0_checkIndex_df160_8 rfl ?_
  exact e_v X hr hW dJ0_checkIndex_df160_9
set_option maxRecDepth 100000 in
set_option maxHeartbeats 4000000 in
theorem c_J1_charAt_3b067 (l : Launch) (g : gG) (hDW : DW g) (q0 : Nat) (hq0 : q0 = 4 ∨ q0 = 6) (x1 : Int32) (mm : gM) (r0 : Int32) (hf : fJ1_charAt_3b067 q0 x1 = some r0) : Met l yJ1_charAt_3b067 (Cond.code yJ1_charAt_3b067 cJ1_charAt_3b067 2 (some .char) :: ALLW) rm_J1_charAt_3b067 (CPre g mm [.ref (sx g (q0 + 1)), .int x1]) (CI g mm r0) 0 0 (gA g) := by
  refine Met.ofW (cc := cJ1_charAt_3b067) (maxL := 2) (ret := (some .char)) (by decide) rfl ?_
  intro p e s m args below meth c s₁ B hml hv
  obtain ⟨ha, hFx, hP0, hlo⟩ := hv
  have X : Cx g p s m args c meth RJ1 cJ1_charAt_3b067 := Cx_of hDW hFx hlo B
  have hx := X.1
  have hb := X.2.1
  have hr := B.returns
  have hlocks := X.2.2.2.2.2.2.2
  have hW : Wd g mm s s.heap [] := ⟨hP0, va_S.rf⟩
  rw [ha, lg_entry_eq]
  have hl := lv_entry ([.ref (sx g (q0 + 1)), .int x1] : List Value) (n := 2) (Nat.le_of_ble_eq_true rfl)
  generalize (lg_sl ([.ref (sx g (q0 + 1)), .int x1] : List Value) ++ List.replicate (2 - (lg_sl ([.ref (sx g (q0 + 1)), .int x1] : List Value)).length) Slot.unset).toArray = ls at hl ⊢
  have hl : lv_has ls 2 [(0, .ref (sx g (q0 + 1))), (1, .int x1)] := hl
  rw [← ha]
  show W p l e rm_J1_charAt_3b067 s m args below meth c s.heap [] 0 0 (MQ below (CI g mm r0) args s 0 0 (gA g)) (F0 m 0 ls [])
  unfold fJ1_charAt_3b067 at hf
  refine lv_iload_n hx hb dJ1_charAt_3b067_0 rfl (lv_at hl 1 rfl) ?_
  refine lv_aload_n hx hb dJ1_charAt_3b067_1 rfl (lv_at hl 0 rfl) ?_
  refine r_blen X hW hq0 dJ1_charAt_3b067_2 ?_
  obtain ⟨r2, e1, hf⟩ := bnd_ex hf
  refine k_v X hW (k_S (As := [.int x1, .int 18]) (rest := []) X hW hml hl.1 (c_J0_checkIndex_df160 l g hDW  _ _ mm e1) ⟨mw_473, kw_J0_checkIndex_df160⟩ ⟨⟨rfl, rfl⟩, ko_J0_checkIndex_df160, ⟨Nat.le_of_ble_eq_true rfl, Nat.le_of_ble_eq_true rfl⟩⟩ rfl rfl (Nat.le_of_ble_eq_true rfl) dJ1_charAt_3b067_3 ⟨Nat.le_of_ble_eq_true rfl, Nat.le_of_ble_eq_true rfl⟩) (fun H locs hW => ?_)
  refine lv_aload_n hx hb dJ1_charAt_3b067_6 rfl (lv_at hl 0 rfl) ?_
  refine lv_iload_n hx hb dJ1_charAt_3b067_7 rfl (lv_at hl 1 rfl) ?_
  obtain ⟨b4, hf⟩ := chk_ex hf
  refine r_bytes X hW hq0 b4 dJ1_charAt_3b067_8 ?_
  refine lv_sipush (v := 255) hx hb dJ1_charAt_3b067_9 (by decide) ?_
  refine lv_iand hx hb dJ1_charAt_3b067_12 ?_
  refine lv_i2c hx hb dJ1_charAt_3b067_13 (v := i2c ((tCodes.getD x1.toNatClampNeg 0) &&& 255)) rfl ?_
  obtain ⟨b5, hf⟩ := chk_ex hf
  exact e_z X hr hW (bc_n b5) (someinj hf) dJ1_charAt_3b067_14
set_option maxRecDepth 100000 in
set_option maxHeartbeats 4000000 in
theorem c_J0_charAt_5068e (l : Launch) (g : gG) (hDW : DW g) (q0 : Nat) (hq0 : q0 = 4 ∨ q0 = 6) (x1 : Int32) (mm : gM) (r0 : Int32) (hf : fJ0_charAt_5068e q0 x1 = some r0) : Met l yJ0_charAt_5068e (Cond.code yJ0_charAt_5068e cJ0_charAt_5068e 2 (some .char) :: ALLW) rm_J0_charAt_5068e (CPre g mm [.ref (sx g q0), .int x1]) (CI g mm r0) 0 0 (gA g) := by
  refine Met.ofW (cc := cJ0_charAt_5068e) (maxL := 2) (ret := (some .char)) (by decide) rfl ?_
  intro p e s m args below meth c s₁ B hml hv
  obtain ⟨ha, hFx, hP0, hlo⟩ := hv
  have X : Cx g p s m args c meth RJ0 cJ0_charAt_5068e := Cx_of hDW hFx hlo B
  have hx := X.1
  have hb := X.2.1
  have hr := B.returns
  have hlocks := X.2.2.2.2.2.2.2
  have hW : Wd g mm s s.heap [] := ⟨hP0, va_S.rf⟩
  rw [ha, lg_entry_eq]
  have hl := lv_entry ([.ref (sx g q0), .int x1] : List Value) (n := 2) (Nat.le_of_ble_eq_true rfl)
  generalize (lg_sl ([.ref (sx g q0), .int x1] : List Value) ++ List.replicate (2 - (lg_sl ([.ref (sx g q0), .int x1] : List Value)).length) Slot.unset).toArray = ls at hl ⊢
  have hl : lv_has ls 2 [(0, .ref (sx g q0)), (1, .int x1)] := hl
  rw [← ha]
  show W p l e rm_J0_charAt_5068e s m args below meth c s.heap [] 0 0 (MQ below (CI g mm r0) args s 0 0 (gA g)) (F0 m 0 ls [])
  unfold fJ0_charAt_5068e at hf
  refine lv_aload_n hx hb dJ0_charAt_5068e_0 rfl (lv_at hl 0 rfl) ?_
  obtain ⟨r2, e1, hf⟩ := bnd_ex hf
  refine k_i X hW (k_V (As := []) (rest := []) X hW hml hl.1 (c_J0_isLatin1_aae02 l g hDW q0 hq0  mm _ e1) (r_recS X hW hq0) ⟨mw_306, kw_J0_isLatin1_aae02⟩ ⟨⟨rfl, rfl⟩, ko_J0_isLatin1_aae02, ⟨Nat.le_of_ble_eq_true rfl, Nat.le_of_ble_eq_true rfl⟩⟩ rfl rfl (Nat.le_of_ble_eq_true rfl) dJ0_charAt_5068e_1 ⟨Nat.le_of_ble_eq_true rfl, Nat.le_of_ble_eq_true rfl⟩) (fun H locs hW => ?_)
  refine lv_if_eq (tgt := 16) hx hb dJ0_charAt_5068e_4 (by decide) (fun c8 => ?_) (fun c8 => ?_)
  · replace hf := ite_t hf c8
    exact (no_some hf).elim
  · replace hf := ite_f hf c8
    refine lv_aload_n hx hb dJ0_charAt_5068e_7 rfl (lv_at hl 0 rfl) ?_
    refine r_value X hW hq0 mw_1332 dJ0_charAt_5068e_8 ?_
    refine lv_iload_n hx hb dJ0_charAt_5068e_11 rfl (lv_at hl 1 rfl) ?_
    obtain ⟨r5, e4, hf⟩ := bnd_ex hf
    refine k_i X hW (k_S (As := [.ref (sx g (q0 + 1)), .int x1]) (rest := []) X hW hml hl.1 (c_J1_charAt_3b067 l g hDW q0 hq0 _ mm _ e4) ⟨mw_470, kw_J1_charAt_3b067⟩ ⟨⟨rfl, rfl⟩, ko_J1_charAt_3b067, ⟨Nat.le_of_ble_eq_true rfl, Nat.le_of_ble_eq_true rfl⟩⟩ rfl rfl (Nat.le_of_ble_eq_true rfl) dJ0_charAt_5068e_12 ⟨Nat.le_of_ble_eq_true rfl, Nat.le_of_ble_eq_true rfl⟩) (fun H locs hW => ?_)
    obtain ⟨b7, hf⟩ := chk_ex hf
    exact e_z X hr hW (bc_n b7) (someinj hf) dJ0_charAt_5068e_15
set_option maxRecDepth 100000 in
set_option maxHeartbeats 4000000 in
theorem c_X5_codeOf (l : Launch) (g : gG) (hDW : DW g) (x0 : Int32) (mm : gM) (r0 : Int32) (hf : fX5_codeOf x0 = some r0) : Met l yX5_codeOf (Cond.code yX5_codeOf cX5_codeOf 1 (some .char) :: ALLW) rm_X5_codeOf (CPre g mm [.int x0]) (CI g mm r0) 0 0 (gA g) := by
  refine Met.ofW (cc := cX5_codeOf) (maxL := 1) (ret := (some .char)) (by decide) rfl ?_
  intro p e s m args below meth c s₁ B hml hv
  obtain ⟨ha, hFx, hP0, hlo⟩ := hv
  have X : Cx g p s m args c meth RX5 cX5_codeOf := Cx_of hDW hFx hlo B
  have hx := X.1
  have hb := X.2.1
  have hr := B.returns
  have hlocks := X.2.2.2.2.2.2.2
  have hW : Wd g mm s s.heap [] := ⟨hP0, va_S.rf⟩
  rw [ha, lg_entry_eq]
  have hl := lv_entry ([.int x0] : List Value) (n := 1) (Nat.le_of_ble_eq_true rfl)
  generalize (lg_sl ([.int x0] : List Value) ++ List.replicate (1 - (lg_sl ([.int x0] : List Value)).length) Slot.unset).toArray = ls at hl ⊢
  have hl : lv_has ls 1 [(0, .int x0)] := hl
  rw [← ha]
  show W p l e rm_X5_codeOf s m args below meth c s.heap [] 0 0 (MQ below (CI g mm r0) args s 0 0 (gA g)) (F0 m 0 ls [])
  have P_20 : ∀ (H : Heap) (locs : List Loc) (ls : Array Slot), Wd g mm s H locs → lv_has ls 1 [] → jX5_codeOf_20 = some r0 → W p l e rm_X5_codeOf s m args below meth c H locs 0 0 (MQ below (CI g mm r0) args s 0 0 (gA g)) (F0 m 20 ls []) := by
    intro  H locs ls hW hl hf
    unfold jX5_codeOf_20 at hf
    refine lv_bipush (v := 63) hx hb dX5_codeOf_20 (by decide) ?_
    obtain ⟨b7, hf⟩ := chk_ex hf
    exact e_z X hr hW (bc_n b7) (someinj hf) dX5_codeOf_22
  unfold fX5_codeOf at hf
  refine lv_iload_n hx hb dX5_codeOf_0 rfl (lv_at hl 0 rfl) ?_
  refine lv_if_lt (tgt := 20) hx hb dX5_codeOf_1 (by decide) (fun c6 => ?_) (fun c6 => ?_)
  · replace hf := ite_t hf c6
    exact P_20  _ _ _ hW (lv_sub hl [] rfl) hf
  · replace hf := ite_f hf c6
    refine lv_iload_n hx hb dX5_codeOf_4 rfl (lv_at hl 0 rfl) ?_
    refine lv_bipush (v := 18) hx hb dX5_codeOf_5 (by decide) ?_
    refine lv_icmp_ge (tgt := 20) hx hb dX5_codeOf_7 (by decide) (fun c5 => ?_) (fun c5 => ?_)
    · replace hf := ite_t hf c5
      exact P_20  _ _ _ hW (lv_sub hl [] rfl) hf
    · replace hf := ite_f hf c5
      refine r_ldcSw X (sx g 6) X.2.2.2.2.2.2.1.2.2.2.1.2.1 dX5_codeOf_10 ?_
      refine lv_iload_n hx hb dX5_codeOf_13 rfl (lv_at hl 0 rfl) ?_
      obtain ⟨r2, e1, hf⟩ := bnd_ex hf
      refine k_i X hW (k_V (As := [.int x0]) (rest := []) X hW hml hl.1 (c_J0_charAt_5068e l g hDW 6 (by decide) _ mm _ e1) (r_recS X hW (by decide)) ⟨mw_466, kw_J0_charAt_5068e⟩ ⟨⟨rfl, rfl⟩, ko_J0_charAt_5068e, ⟨Nat.le_of_ble_eq_true rfl, Nat.le_of_ble_eq_true rfl⟩⟩ rfl rfl (Nat.le_of_ble_eq_true rfl) dX5_codeOf_14 ⟨Nat.le_of_ble_eq_true rfl, Nat.le_of_ble_eq_true rfl⟩) (fun H locs hW => ?_)
      refine lv_goto (tgt := 22) hx hb dX5_codeOf_17 (by decide) ?_
      obtain ⟨b4, hf⟩ := chk_ex hf
      exact e_z X hr hW (bc_n b4) (someinj hf) dX5_codeOf_22
set_option maxRecDepth 100000 in
set_option maxHeartbeats 4000000 in
theorem c_X5_write (l : Launch) (g : gG) (hDW : DW g) (mm : gM) (r0 : Int32) (mZ : gM) (hf : fX5_write mm = some (r0, mZ)) : Met l yX5_write (Cond.code yX5_write cX5_write 2 (some .int) :: ALLW) rm_X5_write (CPre g mm [.ref (ad g 12 0)]) (CI g mZ r0) 0 0 (gA g) := by
  refine Met.ofW (cc := cX5_write) (maxL := 2) (ret := (some .int)) (by decide) rfl ?_
  intro p e s m args below meth c s₁ B hml hv
  obtain ⟨ha, hFx, hP0, hlo⟩ := hv
  have X : Cx g p s m args c meth RX5 cX5_write := Cx_of hDW hFx hlo B
  have hx := X.1
  have hb := X.2.1
  have hr := B.returns
  have hlocks := X.2.2.2.2.2.2.2
  have hW : Wd g mm s s.heap [] := ⟨hP0, va_S.rf⟩
  rw [ha, lg_entry_eq]
  have hl := lv_entry ([.ref (ad g 12 0)] : List Value) (n := 2) (Nat.le_of_ble_eq_true rfl)
  generalize (lg_sl ([.ref (ad g 12 0)] : List Value) ++ List.replicate (2 - (lg_sl ([.ref (ad g 12 0)] : List Value)).length) Slot.unset).toArray = ls at hl ⊢
  have hl : lv_has ls 2 [(0, .ref (ad g 12 0))] := hl
  rw [← ha]
  show W p l e rm_X5_write s m args below meth c s.heap [] 0 0 (MQ below (CI g mZ r0) args s 0 0 (gA g)) (F0 m 0 ls [])
  have P_74 : ∀ (mm : gM) (H : Heap) (locs : List Loc) (ls : Array Slot), Wd g mm s H locs → lv_has ls 2 [(0, .ref (ad g 12 0))] → jX5_write_74 mm = some (r0, mZ) → W p l e rm_X5_write s m args below meth c H locs 0 0 (MQ below (CI g mZ r0) args s 0 0 (gA g)) (F0 m 74 ls []) := by
    intro mm H locs ls hW hl hf
    unfold jX5_write_74 at hf
    refine lv_aload_n hx hb dX5_write_74 rfl (lv_at hl 0 rfl) ?_
    refine gf_12_5 X hW (by decide) mw_256 dX5_write_75 ?_
    refine gf_16_1 X hW (by decide) mw_241 dX5_write_78 ?_
    obtain ⟨hf, hm⟩ := prinj hf
    replace hW := hW.same hm.symm
    exact e_i X hr hW (hf) dX5_write_81
  have P_10 : ∀ (n10 : Nat) (x1 : Int32) (mm : gM) (H : Heap) (locs : List Loc) (ls : Array Slot), Wd g mm s H locs → lv_has ls 2 [(0, .ref (ad g 12 0)), (1, .int x1)] → lX5_write_10 n10 x1 mm = some (r0, mZ) → W p l e rm_X5_write s m args below meth c H locs 0 0 (MQ below (CI g mZ r0) args s 0 0 (gA g)) (F0 m 10 ls []) := by
    intro n10
    induction n10 with
    | zero => intro x1 mm H locs ls hW hl hf; exact (no_some hf).elim
    | succ n10 ih_10 =>
      have P_68 : ∀ (x1 : Int32) (mm : gM) (H : Heap) (locs : List Loc) (ls : Array Slot), Wd g mm s H locs → lv_has ls 2 [(0, .ref (ad g 12 0)), (1, .int x1)] → jX5_write_68 (lX5_write_10 n10) x1 mm = some (r0, mZ) → W p l e rm_X5_write s m args below meth c H locs 0 0 (MQ below (CI g mZ r0) args s 0 0 (gA g)) (F0 m 68 ls []) := by
        intro x1 mm H locs ls hW hl hf
        unfold jX5_write_68 at hf
        refine lv_iinc (v := x1 + 1) (lv' := [(1, .int (x1 + 1)), (0, .ref (ad g 12 0))]) hx hb dX5_write_68 hl (k := 1) rfl rfl (by decide) rfl (fun ls hl => ?_)
        refine lv_goto (tgt := 10) hx hb dX5_write_71 (by decide) ?_
        exact ih_10 _ _ _ _ _ hW (lv_sub hl [1, 0] rfl) hf
      intro x1 mm H locs ls hW hl hf
      rw [lX5_write_10_s] at hf
      refine lv_iload_n hx hb dX5_write_10 rfl (lv_at hl 1 rfl) ?_
      refine lv_bipush (v := 6) hx hb dX5_write_11 (by decide) ?_
      refine lv_icmp_ge (tgt := 74) hx hb dX5_write_13 (by decide) (fun c24 => ?_) (fun c24 => ?_)
      · replace hf := ite_t hf c24
        exact P_74 _ _ _ _ hW (lv_sub hl [0] rfl) hf
      · replace hf := ite_f hf c24
        refine lv_aload_n hx hb dX5_write_16 rfl (lv_at hl 0 rfl) ?_
        refine gf_12_0 X hW (by decide) mw_251 dX5_write_17 ?_
        refine lv_iload_n hx hb dX5_write_20 rfl (lv_at hl 1 rfl) ?_
        obtain ⟨m4, e2, hf⟩ := bnd_ex hf
        refine k_v X hW (k_V (As := [.int x1]) (rest := []) X hW hml hl.1 (c_X1_look l g hDW 0 (by decide) _ mm _ e2) (r_recv X hW 6 0 (by decide) (by decide) rfl rfl) ⟨mw_389, kw_X1_look⟩ ⟨⟨rfl, rfl⟩, ko_X1_look, ⟨Nat.le_of_ble_eq_true rfl, Nat.le_of_ble_eq_true rfl⟩⟩ rfl rfl (Nat.le_of_ble_eq_true rfl) dX5_write_21 ⟨Nat.le_of_ble_eq_true rfl, Nat.le_of_ble_eq_true rfl⟩) (fun H locs hW => ?_)
        refine lv_aload_n hx hb dX5_write_24 rfl (lv_at hl 0 rfl) ?_
        refine gf_12_5 X hW (by decide) mw_256 dX5_write_25 ?_
        refine lv_aload_n hx hb dX5_write_28 rfl (lv_at hl 0 rfl) ?_
        refine gf_12_0 X hW (by decide) mw_251 dX5_write_29 ?_
        refine lv_iload_n hx hb dX5_write_32 rfl (lv_at hl 1 rfl) ?_
        obtain ⟨r6, e5, hf⟩ := bnd_ex hf
        refine k_i X hW (k_V (As := [.int x1]) (rest := [.ref (ad g 16 0)]) X hW hml hl.1 (c_X1_readAs l g hDW 0 (by decide) _ m4 _ e5) (r_recv X hW 6 0 (by decide) (by decide) rfl rfl) ⟨mw_453, kw_X1_readAs⟩ ⟨⟨rfl, rfl⟩, ko_X1_readAs, ⟨Nat.le_of_ble_eq_true rfl, Nat.le_of_ble_eq_true rfl⟩⟩ rfl rfl (Nat.le_of_ble_eq_true rfl) dX5_write_33 ⟨Nat.le_of_ble_eq_true rfl, Nat.le_of_ble_eq_true rfl⟩) (fun H locs hW => ?_)
        obtain ⟨r9, e8, hf⟩ := bnd_ex hf
        refine k_i X hW (k_S (As := [.int r6]) (rest := [.ref (ad g 16 0)]) X hW hml hl.1 (c_X5_codeOf l g hDW  _ m4 _ e8) ⟨mw_462, kw_X5_codeOf⟩ ⟨⟨rfl, rfl⟩, ko_X5_codeOf, ⟨Nat.le_of_ble_eq_true rfl, Nat.le_of_ble_eq_true rfl⟩⟩ rfl rfl (Nat.le_of_ble_eq_true rfl) dX5_write_36 ⟨Nat.le_of_ble_eq_true rfl, Nat.le_of_ble_eq_true rfl⟩) (fun H locs hW => ?_)
        obtain ⟨m13, e11, hf⟩ := bnd_ex hf
        refine k_v X hW (k_V (As := [.int r9]) (rest := []) X hW hml hl.1 (c_X3_put l g hDW  _ m4 _ e11) (r_recv X hW 16 0 (by decide) (by decide) rfl rfl) ⟨mw_486, kw_X3_put⟩ ⟨⟨rfl, rfl⟩, ko_X3_put, ⟨Nat.le_of_ble_eq_true rfl, Nat.le_of_ble_eq_true rfl⟩⟩ rfl rfl (Nat.le_of_ble_eq_true rfl) dX5_write_39 ⟨Nat.le_of_ble_eq_true rfl, Nat.le_of_ble_eq_true rfl⟩) (fun H locs hW => ?_)
        refine lv_aload_n hx hb dX5_write_42 rfl (lv_at hl 0 rfl) ?_
        refine gf_12_0 X hW (by decide) mw_251 dX5_write_43 ?_
        refine lv_iload_n hx hb dX5_write_46 rfl (lv_at hl 1 rfl) ?_
        obtain ⟨r15, e14, hf⟩ := bnd_ex hf
        refine k_i X hW (k_V (As := [.int x1]) (rest := []) X hW hml hl.1 (c_X1_seen l g hDW 0 (by decide) _ m13 _ e14) (r_recv X hW 6 0 (by decide) (by decide) rfl rfl) ⟨mw_490, kw_X1_seen⟩ ⟨⟨rfl, rfl⟩, ko_X1_seen, ⟨Nat.le_of_ble_eq_true rfl, Nat.le_of_ble_eq_true rfl⟩⟩ rfl rfl (Nat.le_of_ble_eq_true rfl) dX5_write_47 ⟨Nat.le_of_ble_eq_true rfl, Nat.le_of_ble_eq_true rfl⟩) (fun H locs hW => ?_)
        refine lv_bipush (v := 7) hx hb dX5_write_50 (by decide) ?_
        obtain ⟨r18, e17, hf⟩ := bnd_ex hf
        refine k_i X hW (k_S (As := [.int r15, .int 7]) (rest := []) X hW hml hl.1 (c_X5_bit l g hDW  _ _ m13 _ e17) ⟨mw_491, kw_X5_bit⟩ ⟨⟨rfl, rfl⟩, ko_X5_bit, ⟨Nat.le_of_ble_eq_true rfl, Nat.le_of_ble_eq_true rfl⟩⟩ rfl rfl (Nat.le_of_ble_eq_true rfl) dX5_write_52 ⟨Nat.le_of_ble_eq_true rfl, Nat.le_of_ble_eq_true rfl⟩) (fun H locs hW => ?_)
        refine lv_iconst (v := 1) hx hb dX5_write_55 (by decide) ?_
        refine lv_icmp_ne (tgt := 68) hx hb dX5_write_56 (by decide) (fun c23 => ?_) (fun c23 => ?_)
        · replace hf := ite_f hf c23
          exact P_68 _ _ _ _ _ hW (lv_sub hl [0, 1] rfl) hf
        · replace hf := ite_t hf c23
          refine lv_aload_n hx hb dX5_write_59 rfl (lv_at hl 0 rfl) ?_
          refine gf_12_5 X hW (by decide) mw_256 dX5_write_60 ?_
          refine lv_bipush (v := 46) hx hb dX5_write_63 (by decide) ?_
          obtain ⟨m22, e20, hf⟩ := bnd_ex hf
          refine k_v X hW (k_V (As := [.int 46]) (rest := []) X hW hml hl.1 (c_X3_put l g hDW  _ m13 _ e20) (r_recv X hW 16 0 (by decide) (by decide) rfl rfl) ⟨mw_486, kw_X3_put⟩ ⟨⟨rfl, rfl⟩, ko_X3_put, ⟨Nat.le_of_ble_eq_true rfl, Nat.le_of_ble_eq_true rfl⟩⟩ rfl rfl (Nat.le_of_ble_eq_true rfl) dX5_write_65 ⟨Nat.le_of_ble_eq_true rfl, Nat.le_of_ble_eq_true rfl⟩) (fun H locs hW => ?_)
          exact P_68 _ _ _ _ _ hW (lv_sub hl [0, 1] rfl) hf
  unfold fX5_write at hf
  refine lv_aload_n hx hb dX5_write_0 rfl (lv_at hl 0 rfl) ?_
  refine gf_12_5 X hW (by decide) mw_256 dX5_write_1 ?_
  refine lv_iconst (v := 0) hx hb dX5_write_4 (by decide) ?_
  obtain ⟨m1, ex, hf⟩ := wth_ex hf
  refine pf_16_1 X hW (by decide) mw_241 dX5_write_5 (fun H locs hW => ?_)
  replace hW := hW.same ex
  clear ex
  refine lv_iconst (v := 0) hx hb dX5_write_8 (by decide) ?_
  refine lv_istore_n (lv' := [(1, .int 0), (0, .ref (ad g 12 0))]) hx hb dX5_write_9 rfl hl (by decide) rfl (fun ls hl => ?_)
  exact P_10 _ _ _ _ _ _ hW (lv_sub hl [1, 0] rfl) hf
set_option maxRecDepth 100000 in
set_option maxHeartbeats 4000000 in
theorem c_X5_readRight (l : Launch) (g : gG) (hDW : DW g) (x1 : Int32) (mm : gM) (r0 : Int32) (hf : fX5_readRight x1 mm = some r0) : Met l yX5_readRight (Cond.code yX5_readRight cX5_readRight 2 (some .boolean) :: ALLW) rm_X5_readRight (CPre g mm [.ref (ad g 12 0), .int x1]) (CI g mm r0) 0 0 (gA g) := by
  refine Met.ofW (cc := cX5_readRight) (maxL := 2) (ret := (some .boolean)) (by decide) rfl ?_
  intro p e s m args below meth c s₁ B hml hv
  obtain ⟨ha, hFx, hP0, hlo⟩ := hv
  have X : Cx g p s m args c meth RX5 cX5_readRight := Cx_of hDW hFx hlo B
  have hx := X.1
  have hb := X.2.1
  have hr := B.returns
  have hlocks := X.2.2.2.2.2.2.2
  have hW : Wd g mm s s.heap [] := ⟨hP0, va_S.rf⟩
  rw [ha, lg_entry_eq]
  have hl := lv_entry ([.ref (ad g 12 0), .int x1] : List Value) (n := 2) (Nat.le_of_ble_eq_true rfl)
  generalize (lg_sl ([.ref (ad g 12 0), .int x1] : List Value) ++ List.replicate (2 - (lg_sl ([.ref (ad g 12 0), .int x1] : List Value)).length) Slot.unset).toArray = ls at hl ⊢
  have hl : lv_has ls 2 [(0, .ref (ad g 12 0)), (1, .int x1)] := hl
  rw [← ha]
  show W p l e rm_X5_readRight s m args below meth c s.heap [] 0 0 (MQ below (CI g mm r0) args s 0 0 (gA g)) (F0 m 0 ls [])
  have P_51 : ∀ (H : Heap) (locs : List Loc) (ls : Array Slot), Wd g mm s H locs → lv_has ls 2 [] → jX5_readRight_51 mm = some r0 → W p l e rm_X5_readRight s m args below meth c H locs 0 0 (MQ below (CI g mm r0) args s 0 0 (gA g)) (F0 m 51 ls []) := by
    intro  H locs ls hW hl hf
    unfold jX5_readRight_51 at hf
    refine lv_iconst (v := 0) hx hb dX5_readRight_51 (by decide) ?_
    obtain ⟨b17, hf⟩ := chk_ex hf
    exact e_z X hr hW (bz_n b17) (someinj hf) dX5_readRight_52
  unfold fX5_readRight at hf
  refine lv_aload_n hx hb dX5_readRight_0 rfl (lv_at hl 0 rfl) ?_
  refine gf_12_0 X hW (by decide) mw_251 dX5_readRight_1 ?_
  refine lv_iload_n hx hb dX5_readRight_4 rfl (lv_at hl 1 rfl) ?_
  obtain ⟨r2, e1, hf⟩ := bnd_ex hf
  refine k_i X hW (k_V (As := [.int x1]) (rest := []) X hW hml hl.1 (c_X1_readAs l g hDW 0 (by decide) _ mm _ e1) (r_recv X hW 6 0 (by decide) (by decide) rfl rfl) ⟨mw_453, kw_X1_readAs⟩ ⟨⟨rfl, rfl⟩, ko_X1_readAs, ⟨Nat.le_of_ble_eq_true rfl, Nat.le_of_ble_eq_true rfl⟩⟩ rfl rfl (Nat.le_of_ble_eq_true rfl) dX5_readRight_5 ⟨Nat.le_of_ble_eq_true rfl, Nat.le_of_ble_eq_true rfl⟩) (fun H locs hW => ?_)
  refine lv_aload_n hx hb dX5_readRight_8 rfl (lv_at hl 0 rfl) ?_
  refine gf_12_1 X hW (by decide) mw_252 dX5_readRight_9 ?_
  refine gf_0_0 X hW (by decide) mw_113 dX5_readRight_12 ?_
  refine lv_iload_n hx hb dX5_readRight_15 rfl (lv_at hl 1 rfl) ?_
  obtain ⟨b4, hf⟩ := chk_ex hf
  refine r_iald X hW 1 0 (by decide) (by decide) rfl b4 dX5_readRight_16 ?_
  refine lv_icmp_ne (tgt := 51) hx hb dX5_readRight_17 (by decide) (fun c16 => ?_) (fun c16 => ?_)
  · replace hf := ite_f hf c16
    exact P_51  _ _ _ hW (lv_sub hl [] rfl) hf
  · replace hf := ite_t hf c16
    refine lv_aload_n hx hb dX5_readRight_20 rfl (lv_at hl 0 rfl) ?_
    refine gf_12_0 X hW (by decide) mw_251 dX5_readRight_21 ?_
    refine lv_iload_n hx hb dX5_readRight_24 rfl (lv_at hl 1 rfl) ?_
    obtain ⟨r6, e5, hf⟩ := bnd_ex hf
    refine k_i X hW (k_V (As := [.int x1]) (rest := []) X hW hml hl.1 (c_X1_seen l g hDW 0 (by decide) _ mm _ e5) (r_recv X hW 6 0 (by decide) (by decide) rfl rfl) ⟨mw_490, kw_X1_seen⟩ ⟨⟨rfl, rfl⟩, ko_X1_seen, ⟨Nat.le_of_ble_eq_true rfl, Nat.le_of_ble_eq_true rfl⟩⟩ rfl rfl (Nat.le_of_ble_eq_true rfl) dX5_readRight_25 ⟨Nat.le_of_ble_eq_true rfl, Nat.le_of_ble_eq_true rfl⟩) (fun H locs hW => ?_)
    refine lv_bipush (v := 7) hx hb dX5_readRight_28 (by decide) ?_
    obtain ⟨r9, e8, hf⟩ := bnd_ex hf
    refine k_i X hW (k_S (As := [.int r6, .int 7]) (rest := []) X hW hml hl.1 (c_X5_bit l g hDW  _ _ mm _ e8) ⟨mw_491, kw_X5_bit⟩ ⟨⟨rfl, rfl⟩, ko_X5_bit, ⟨Nat.le_of_ble_eq_true rfl, Nat.le_of_ble_eq_true rfl⟩⟩ rfl rfl (Nat.le_of_ble_eq_true rfl) dX5_readRight_30 ⟨Nat.le_of_ble_eq_true rfl, Nat.le_of_ble_eq_true rfl⟩) (fun H locs hW => ?_)
    refine lv_aload_n hx hb dX5_readRight_33 rfl (lv_at hl 0 rfl) ?_
    refine gf_12_1 X hW (by decide) mw_252 dX5_readRight_34 ?_
    refine gf_0_5 X hW (by decide) mw_129 dX5_readRight_37 ?_
    refine lv_iload_n hx hb dX5_readRight_40 rfl (lv_at hl 1 rfl) ?_
    obtain ⟨r12, e11, hf⟩ := bnd_ex hf
    refine k_i X hW (k_S (As := [.int (gi mm 0 0 5), .int x1]) (rest := [.int r9]) X hW hml hl.1 (c_X5_bit l g hDW  _ _ mm _ e11) ⟨mw_491, kw_X5_bit⟩ ⟨⟨rfl, rfl⟩, ko_X5_bit, ⟨Nat.le_of_ble_eq_true rfl, Nat.le_of_ble_eq_true rfl⟩⟩ rfl rfl (Nat.le_of_ble_eq_true rfl) dX5_readRight_41 ⟨Nat.le_of_ble_eq_true rfl, Nat.le_of_ble_eq_true rfl⟩) (fun H locs hW => ?_)
    refine lv_icmp_ne (tgt := 51) hx hb dX5_readRight_44 (by decide) (fun c15 => ?_) (fun c15 => ?_)
    · replace hf := ite_f hf c15
      exact P_51  _ _ _ hW (lv_sub hl [] rfl) hf
    · replace hf := ite_t hf c15
      refine lv_iconst (v := 1) hx hb dX5_readRight_47 (by decide) ?_
      refine lv_goto (tgt := 52) hx hb dX5_readRight_48 (by decide) ?_
      obtain ⟨b14, hf⟩ := chk_ex hf
      exact e_z X hr hW (bz_n b14) (someinj hf) dX5_readRight_52
set_option maxRecDepth 100000 in
set_option maxHeartbeats 4000000 in
theorem c_X5_slotProperty (l : Launch) (g : gG) (hDW : DW g) (x1 : Int32) (x2 : Int32) (mm : gM) (r0 : Int32) (mZ : gM) (hf : fX5_slotProperty x1 x2 mm = some (r0, mZ)) : Met l yX5_slotProperty (Cond.code yX5_slotProperty cX5_slotProperty 3 (some .int) :: ALLW) rm_X5_slotProperty (CPre g mm [.ref (ad g 12 0), .int x1, .int x2]) (CI g mZ r0) 0 0 (gA g) := by
  refine Met.ofW (cc := cX5_slotProperty) (maxL := 3) (ret := (some .int)) (by decide) rfl ?_
  intro p e s m args below meth c s₁ B hml hv
  obtain ⟨ha, hFx, hP0, hlo⟩ := hv
  have X : Cx g p s m args c meth RX5 cX5_slotProperty := Cx_of hDW hFx hlo B
  have hx := X.1
  have hb := X.2.1
  have hr := B.returns
  have hlocks := X.2.2.2.2.2.2.2
  have hW : Wd g mm s s.heap [] := ⟨hP0, va_S.rf⟩
  rw [ha, lg_entry_eq]
  have hl := lv_entry ([.ref (ad g 12 0), .int x1, .int x2] : List Value) (n := 3) (Nat.le_of_ble_eq_true rfl)
  generalize (lg_sl ([.ref (ad g 12 0), .int x1, .int x2] : List Value) ++ List.replicate (3 - (lg_sl ([.ref (ad g 12 0), .int x1, .int x2] : List Value)).length) Slot.unset).toArray = ls at hl ⊢
  have hl : lv_has ls 3 [(0, .ref (ad g 12 0)), (1, .int x1), (2, .int x2)] := hl
  rw [← ha]
  show W p l e rm_X5_slotProperty s m args below meth c s.heap [] 0 0 (MQ below (CI g mZ r0) args s 0 0 (gA g)) (F0 m 0 ls [])
  have P_14 : ∀ (x1 : Int32) (x2 : Int32) (mm : gM) (H : Heap) (locs : List Loc) (ls : Array Slot), Wd g mm s H locs → lv_has ls 3 [(0, .ref (ad g 12 0)), (1, .int x1), (2, .int x2)] → jX5_slotProperty_14 x1 x2 mm = some (r0, mZ) → W p l e rm_X5_slotProperty s m args below meth c H locs 0 0 (MQ below (CI g mZ r0) args s 0 0 (gA g)) (F0 m 14 ls []) := by
    intro x1 x2 mm H locs ls hW hl hf
    unfold jX5_slotProperty_14 at hf
    refine lv_iload_n hx hb dX5_slotProperty_14 rfl (lv_at hl 2 rfl) ?_
    by_cases c6 : x2 = 0
    · replace hf := ite_t hf c6
      refine lv_tableIn (off := 49) (tgt := 64) hx hb dX5_slotProperty_15 (by rw [c6]; decide) (by rw [c6]; decide) (by rw [c6]; rfl) (by decide) ?_
      refine lv_aload_n hx hb dX5_slotProperty_64 rfl (lv_at hl 0 rfl) ?_
      refine gf_12_1 X hW (by decide) mw_252 dX5_slotProperty_65 ?_
      refine gf_0_0 X hW (by decide) mw_113 dX5_slotProperty_68 ?_
      refine lv_iload_n hx hb dX5_slotProperty_71 rfl (lv_at hl 1 rfl) ?_
      obtain ⟨b5, hf⟩ := chk_ex hf
      refine r_iald X hW 1 0 (by decide) (by decide) rfl b5 dX5_slotProperty_72 ?_
      obtain ⟨hf, hm⟩ := prinj hf
      replace hW := hW.same hm.symm
      exact e_i X hr hW (hf) dX5_slotProperty_73
    · replace hf := ite_f hf c6
      by_cases c10 : x2 = 1
      · replace hf := ite_t hf c10
        refine lv_tableIn (off := 59) (tgt := 74) hx hb dX5_slotProperty_15 (by rw [c10]; decide) (by rw [c10]; decide) (by rw [c10]; rfl) (by decide) ?_
        refine lv_aload_n hx hb dX5_slotProperty_74 rfl (lv_at hl 0 rfl) ?_
        refine gf_12_1 X hW (by decide) mw_252 dX5_slotProperty_75 ?_
        refine gf_0_5 X hW (by decide) mw_129 dX5_slotProperty_78 ?_
        refine lv_iload_n hx hb dX5_slotProperty_81 rfl (lv_at hl 1 rfl) ?_
        obtain ⟨r8, e7, hf⟩ := bnd_ex hf
        refine k_i X hW (k_S (As := [.int (gi mm 0 0 5), .int x1]) (rest := []) X hW hml hl.1 (c_X5_bit l g hDW  _ _ mm _ e7) ⟨mw_491, kw_X5_bit⟩ ⟨⟨rfl, rfl⟩, ko_X5_bit, ⟨Nat.le_of_ble_eq_true rfl, Nat.le_of_ble_eq_true rfl⟩⟩ rfl rfl (Nat.le_of_ble_eq_true rfl) dX5_slotProperty_82 ⟨Nat.le_of_ble_eq_true rfl, Nat.le_of_ble_eq_true rfl⟩) (fun H locs hW => ?_)
        obtain ⟨hf, hm⟩ := prinj hf
        replace hW := hW.same hm.symm
        exact e_i X hr hW (hf) dX5_slotProperty_85
      · replace hf := ite_f hf c10
        by_cases c12 : x2 = 2
        · replace hf := ite_t hf c12
          refine lv_tableIn (off := 71) (tgt := 86) hx hb dX5_slotProperty_15 (by rw [c12]; decide) (by rw [c12]; decide) (by rw [c12]; rfl) (by decide) ?_
          refine lv_aload_n hx hb dX5_slotProperty_86 rfl (lv_at hl 0 rfl) ?_
          refine gf_12_1 X hW (by decide) mw_252 dX5_slotProperty_87 ?_
          refine gf_0_2 X hW (by decide) mw_120 dX5_slotProperty_90 ?_
          refine lv_iload_n hx hb dX5_slotProperty_93 rfl (lv_at hl 1 rfl) ?_
          obtain ⟨b11, hf⟩ := chk_ex hf
          refine r_iald X hW 3 0 (by decide) (by decide) rfl b11 dX5_slotProperty_94 ?_
          obtain ⟨hf, hm⟩ := prinj hf
          replace hW := hW.same hm.symm
          exact e_i X hr hW (hf) dX5_slotProperty_95
        · replace hf := ite_f hf c12
          by_cases c14 : x2 = 3
          · replace hf := ite_t hf c14
            refine lv_tableIn (off := 81) (tgt := 96) hx hb dX5_slotProperty_15 (by rw [c14]; decide) (by rw [c14]; decide) (by rw [c14]; rfl) (by decide) ?_
            refine lv_aload_n hx hb dX5_slotProperty_96 rfl (lv_at hl 0 rfl) ?_
            refine gf_12_1 X hW (by decide) mw_252 dX5_slotProperty_97 ?_
            refine gf_0_1 X hW (by decide) mw_117 dX5_slotProperty_100 ?_
            refine lv_iload_n hx hb dX5_slotProperty_103 rfl (lv_at hl 1 rfl) ?_
            obtain ⟨b13, hf⟩ := chk_ex hf
            refine r_iald X hW 2 0 (by decide) (by decide) rfl b13 dX5_slotProperty_104 ?_
            obtain ⟨hf, hm⟩ := prinj hf
            replace hW := hW.same hm.symm
            exact e_i X hr hW (hf) dX5_slotProperty_105
          · replace hf := ite_f hf c14
            by_cases c18 : x2 = 4
            · replace hf := ite_t hf c18
              refine lv_tableIn (off := 91) (tgt := 106) hx hb dX5_slotProperty_15 (by rw [c18]; decide) (by rw [c18]; decide) (by rw [c18]; rfl) (by decide) ?_
              refine lv_aload_n hx hb dX5_slotProperty_106 rfl (lv_at hl 0 rfl) ?_
              refine gf_12_1 X hW (by decide) mw_252 dX5_slotProperty_107 ?_
              refine lv_iload_n hx hb dX5_slotProperty_110 rfl (lv_at hl 1 rfl) ?_
              obtain ⟨r16, e15, hf⟩ := bnd_ex hf
              refine k_i X hW (k_V (As := [.int x1]) (rest := []) X hW hml hl.1 (c_X2_works l g hDW 0 (by decide) _ mm _ e15) (r_recv X hW 0 0 (by decide) (by decide) rfl rfl) ⟨mw_505, kw_X2_works⟩ ⟨⟨rfl, rfl⟩, ko_X2_works, ⟨Nat.le_of_ble_eq_true rfl, Nat.le_of_ble_eq_true rfl⟩⟩ rfl rfl (Nat.le_of_ble_eq_true rfl) dX5_slotProperty_111 ⟨Nat.le_of_ble_eq_true rfl, Nat.le_of_ble_eq_true rfl⟩) (fun H locs hW => ?_)
              obtain ⟨hf, hm⟩ := prinj hf
              replace hW := hW.same hm.symm
              exact e_i X hr hW (hf) dX5_slotProperty_114
            · replace hf := ite_f hf c18
              by_cases c25 : x2 = 5
              · replace hf := ite_t hf c25
                refine lv_tableIn (off := 100) (tgt := 115) hx hb dX5_slotProperty_15 (by rw [c25]; decide) (by rw [c25]; decide) (by rw [c25]; rfl) (by decide) ?_
                refine lv_aload_n hx hb dX5_slotProperty_115 rfl (lv_at hl 0 rfl) ?_
                refine gf_12_1 X hW (by decide) mw_252 dX5_slotProperty_116 ?_
                refine lv_aload_n hx hb dX5_slotProperty_119 rfl (lv_at hl 0 rfl) ?_
                refine gf_12_1 X hW (by decide) mw_252 dX5_slotProperty_120 ?_
                refine lv_iload_n hx hb dX5_slotProperty_123 rfl (lv_at hl 1 rfl) ?_
                obtain ⟨r20, e19, hf⟩ := bnd_ex hf
                refine k_i X hW (k_V (As := [.int x1]) (rest := [.ref (ad g 0 0)]) X hW hml hl.1 (c_X2_works l g hDW 0 (by decide) _ mm _ e19) (r_recv X hW 0 0 (by decide) (by decide) rfl rfl) ⟨mw_505, kw_X2_works⟩ ⟨⟨rfl, rfl⟩, ko_X2_works, ⟨Nat.le_of_ble_eq_true rfl, Nat.le_of_ble_eq_true rfl⟩⟩ rfl rfl (Nat.le_of_ble_eq_true rfl) dX5_slotProperty_124 ⟨Nat.le_of_ble_eq_true rfl, Nat.le_of_ble_eq_true rfl⟩) (fun H locs hW => ?_)
                obtain ⟨r23, e22, hf⟩ := bnd_ex hf
                refine k_i X hW (k_V (As := [.int r20]) (rest := []) X hW hml hl.1 (c_X2_lightFor l g hDW 0 (by decide) _ mm _ e22) (r_recv X hW 0 0 (by decide) (by decide) rfl rfl) ⟨mw_536, kw_X2_lightFor⟩ ⟨⟨rfl, rfl⟩, ko_X2_lightFor, ⟨Nat.le_of_ble_eq_true rfl, Nat.le_of_ble_eq_true rfl⟩⟩ rfl rfl (Nat.le_of_ble_eq_true rfl) dX5_slotProperty_127 ⟨Nat.le_of_ble_eq_true rfl, Nat.le_of_ble_eq_true rfl⟩) (fun H locs hW => ?_)
                obtain ⟨hf, hm⟩ := prinj hf
                replace hW := hW.same hm.symm
                exact e_i X hr hW (hf) dX5_slotProperty_130
              · replace hf := ite_f hf c25
                by_cases c29 : x2 = 6
                · replace hf := ite_t hf c29
                  refine lv_tableIn (off := 116) (tgt := 131) hx hb dX5_slotProperty_15 (by rw [c29]; decide) (by rw [c29]; decide) (by rw [c29]; rfl) (by decide) ?_
                  refine lv_aload_n hx hb dX5_slotProperty_131 rfl (lv_at hl 0 rfl) ?_
                  refine gf_12_0 X hW (by decide) mw_251 dX5_slotProperty_132 ?_
                  refine lv_iload_n hx hb dX5_slotProperty_135 rfl (lv_at hl 1 rfl) ?_
                  obtain ⟨r27, e26, hf⟩ := bnd_ex hf
                  refine k_i X hW (k_V (As := [.int x1]) (rest := []) X hW hml hl.1 (c_X1_seen l g hDW 0 (by decide) _ mm _ e26) (r_recv X hW 6 0 (by decide) (by decide) rfl rfl) ⟨mw_490, kw_X1_seen⟩ ⟨⟨rfl, rfl⟩, ko_X1_seen, ⟨Nat.le_of_ble_eq_true rfl, Nat.le_of_ble_eq_true rfl⟩⟩ rfl rfl (Nat.le_of_ble_eq_true rfl) dX5_slotProperty_136 ⟨Nat.le_of_ble_eq_true rfl, Nat.le_of_ble_eq_true rfl⟩) (fun H locs hW => ?_)
                  obtain ⟨hf, hm⟩ := prinj hf
                  replace hW := hW.same hm.symm
                  exact e_i X hr hW (hf) dX5_slotProperty_139
                · replace hf := ite_f hf c29
                  by_cases c33 : x2 = 7
                  · replace hf := ite_t hf c33
                    refine lv_tableIn (off := 125) (tgt := 140) hx hb dX5_slotProperty_15 (by rw [c33]; decide) (by rw [c33]; decide) (by rw [c33]; rfl) (by decide) ?_
                    refine lv_aload_n hx hb dX5_slotProperty_140 rfl (lv_at hl 0 rfl) ?_
                    refine gf_12_0 X hW (by decide) mw_251 dX5_slotProperty_141 ?_
                    refine lv_iload_n hx hb dX5_slotProperty_144 rfl (lv_at hl 1 rfl) ?_
                    obtain ⟨r31, e30, hf⟩ := bnd_ex hf
                    refine k_i X hW (k_V (As := [.int x1]) (rest := []) X hW hml hl.1 (c_X1_readAs l g hDW 0 (by decide) _ mm _ e30) (r_recv X hW 6 0 (by decide) (by decide) rfl rfl) ⟨mw_453, kw_X1_readAs⟩ ⟨⟨rfl, rfl⟩, ko_X1_readAs, ⟨Nat.le_of_ble_eq_true rfl, Nat.le_of_ble_eq_true rfl⟩⟩ rfl rfl (Nat.le_of_ble_eq_true rfl) dX5_slotProperty_145 ⟨Nat.le_of_ble_eq_true rfl, Nat.le_of_ble_eq_true rfl⟩) (fun H locs hW => ?_)
                    obtain ⟨hf, hm⟩ := prinj hf
                    replace hW := hW.same hm.symm
                    exact e_i X hr hW (hf) dX5_slotProperty_148
                  · replace hf := ite_f hf c33
                    by_cases c38 : x2 = 8
                    · replace hf := ite_t hf c38
                      refine lv_tableIn (off := 134) (tgt := 149) hx hb dX5_slotProperty_15 (by rw [c38]; decide) (by rw [c38]; decide) (by rw [c38]; rfl) (by decide) ?_
                      refine lv_aload_n hx hb dX5_slotProperty_149 rfl (lv_at hl 0 rfl) ?_
                      refine lv_iload_n hx hb dX5_slotProperty_150 rfl (lv_at hl 1 rfl) ?_
                      obtain ⟨r35, e34, hf⟩ := bnd_ex hf
                      refine k_i X hW (k_V (As := [.int x1]) (rest := []) X hW hml hl.1 (c_X5_readRight l g hDW  _ mm _ e34) (r_recv X hW 12 0 (by decide) (by decide) rfl rfl) ⟨mw_568, kw_X5_readRight⟩ ⟨⟨rfl, rfl⟩, ko_X5_readRight, ⟨Nat.le_of_ble_eq_true rfl, Nat.le_of_ble_eq_true rfl⟩⟩ rfl rfl (Nat.le_of_ble_eq_true rfl) dX5_slotProperty_151 ⟨Nat.le_of_ble_eq_true rfl, Nat.le_of_ble_eq_true rfl⟩) (fun H locs hW => ?_)
                      refine lv_if_eq (tgt := 161) hx hb dX5_slotProperty_154 (by decide) (fun c37 => ?_) (fun c37 => ?_)
                      · replace hf := ite_t hf c37
                        refine lv_iconst (v := 0) hx hb dX5_slotProperty_161 (by decide) ?_
                        obtain ⟨hf, hm⟩ := prinj hf
                        replace hW := hW.same hm.symm
                        exact e_i X hr hW (hf) dX5_slotProperty_162
                      · replace hf := ite_f hf c37
                        refine lv_iconst (v := 1) hx hb dX5_slotProperty_157 (by decide) ?_
                        refine lv_goto (tgt := 162) hx hb dX5_slotProperty_158 (by decide) ?_
                        obtain ⟨hf, hm⟩ := prinj hf
                        replace hW := hW.same hm.symm
                        exact e_i X hr hW (hf) dX5_slotProperty_162
                    · replace hf := ite_f hf c38
                      refine lv_tableOut (tgt := 163) hx hb dX5_slotProperty_15 (tb_out0_9 c6 c10 c12 c14 c18 c25 c29 c33 c38) (by decide) ?_
                      refine lv_aload_n hx hb dX5_slotProperty_163 rfl (lv_at hl 0 rfl) ?_
                      refine gf_12_0 X hW (by decide) mw_251 dX5_slotProperty_164 ?_
                      refine lv_iload_n hx hb dX5_slotProperty_167 rfl (lv_at hl 1 rfl) ?_
                      obtain ⟨r40, e39, hf⟩ := bnd_ex hf
                      refine k_i X hW (k_V (As := [.int x1]) (rest := []) X hW hml hl.1 (c_X1_mean l g hDW 0 (by decide) _ mm _ e39) (r_recv X hW 6 0 (by decide) (by decide) rfl rfl) ⟨mw_506, kw_X1_mean⟩ ⟨⟨rfl, rfl⟩, ko_X1_mean, ⟨Nat.le_of_ble_eq_true rfl, Nat.le_of_ble_eq_true rfl⟩⟩ rfl rfl (Nat.le_of_ble_eq_true rfl) dX5_slotProperty_168 ⟨Nat.le_of_ble_eq_true rfl, Nat.le_of_ble_eq_true rfl⟩) (fun H locs hW => ?_)
                      obtain ⟨hf, hm⟩ := prinj hf
                      replace hW := hW.same hm.symm
                      exact e_i X hr hW (hf) dX5_slotProperty_171
  unfold fX5_slotProperty at hf
  refine lv_iload_n hx hb dX5_slotProperty_0 rfl (lv_at hl 2 rfl) ?_
  refine lv_bipush (v := 6) hx hb dX5_slotProperty_1 (by decide) ?_
  refine lv_icmp_lt (tgt := 14) hx hb dX5_slotProperty_3 (by decide) (fun c4 => ?_) (fun c4 => ?_)
  · replace hf := ite_t hf c4
    exact P_14 _ _ _ _ _ _ hW (lv_sub hl [0, 1, 2] rfl) hf
  · replace hf := ite_f hf c4
    refine lv_aload_n hx hb dX5_slotProperty_6 rfl (lv_at hl 0 rfl) ?_
    refine gf_12_0 X hW (by decide) mw_251 dX5_slotProperty_7 ?_
    refine lv_iload_n hx hb dX5_slotProperty_10 rfl (lv_at hl 1 rfl) ?_
    obtain ⟨m3, e1, hf⟩ := bnd_ex hf
    refine k_v X hW (k_V (As := [.int x1]) (rest := []) X hW hml hl.1 (c_X1_look l g hDW 0 (by decide) _ mm _ e1) (r_recv X hW 6 0 (by decide) (by decide) rfl rfl) ⟨mw_389, kw_X1_look⟩ ⟨⟨rfl, rfl⟩, ko_X1_look, ⟨Nat.le_of_ble_eq_true rfl, Nat.le_of_ble_eq_true rfl⟩⟩ rfl rfl (Nat.le_of_ble_eq_true rfl) dX5_slotProperty_11 ⟨Nat.le_of_ble_eq_true rfl, Nat.le_of_ble_eq_true rfl⟩) (fun H locs hW => ?_)
    exact P_14 _ _ _ _ _ _ hW (lv_sub hl [0, 1, 2] rfl) hf
set_option maxRecDepth 100000 in
set_option maxHeartbeats 4000000 in
theorem c_X5_segmentProperty (l : Launch) (g : gG) (hDW : DW g) (x1 : Int32) (x2 : Int32) (x3 : Int32) (mm : gM) (r0 : Int32) (mZ : gM) (hf : fX5_segmentProperty x1 x2 x3 mm = some (r0, mZ)) : Met l yX5_segmentProperty (Cond.code yX5_segmentProperty cX5_segmentProperty 5 (some .int) :: ALLW) rm_X5_segmentProperty (CPre g mm [.ref (ad g 12 0), .int x1, .int x2, .int x3]) (CI g mZ r0) 0 0 (gA g) := by
  refine Met.ofW (cc := cX5_segmentProperty) (maxL := 5) (ret := (some .int)) (by decide) rfl ?_
  intro p e s m args below meth c s₁ B hml hv
  obtain ⟨ha, hFx, hP0, hlo⟩ := hv
  have X : Cx g p s m args c meth RX5 cX5_segmentProperty := Cx_of hDW hFx hlo B
  have hx := X.1
  have hb := X.2.1
  have hr := B.returns
  have hlocks := X.2.2.2.2.2.2.2
  have hW : Wd g mm s s.heap [] := ⟨hP0, va_S.rf⟩
  rw [ha, lg_entry_eq]
  have hl := lv_entry ([.ref (ad g 12 0), .int x1, .int x2, .int x3] : List Value) (n := 5) (Nat.le_of_ble_eq_true rfl)
  generalize (lg_sl ([.ref (ad g 12 0), .int x1, .int x2, .int x3] : List Value) ++ List.replicate (5 - (lg_sl ([.ref (ad g 12 0), .int x1, .int x2, .int x3] : List Value)).length) Slot.unset).toArray = ls at hl ⊢
  have hl : lv_has ls 5 [(0, .ref (ad g 12 0)), (1, .int x1), (2, .int x2), (3, .int x3)] := hl
  rw [← ha]
  show W p l e rm_X5_segmentProperty s m args below meth c s.heap [] 0 0 (MQ below (CI g mZ r0) args s 0 0 (gA g)) (F0 m 0 ls [])
  unfold fX5_segmentProperty at hf
  refine lv_iload_n hx hb dX5_segmentProperty_0 rfl (lv_at hl 1 rfl) ?_
  refine lv_bipush (v := 8) hx hb dX5_segmentProperty_1 (by decide) ?_
  refine lv_imul hx hb dX5_segmentProperty_3 ?_
  refine lv_iload_n hx hb dX5_segmentProperty_4 rfl (lv_at hl 2 rfl) ?_
  refine lv_iadd hx hb dX5_segmentProperty_5 ?_
  refine lv_istore (lv' := [(4, .int ((x1 * 8) + x2)), (0, .ref (ad g 12 0)), (1, .int x1), (2, .int x2), (3, .int x3)]) hx hb dX5_segmentProperty_6 hl (by decide) rfl (fun ls hl => ?_)
  refine lv_iload_n hx hb dX5_segmentProperty_8 rfl (lv_at hl 4 rfl) ?_
  refine lv_if_ne (tgt := 23) hx hb dX5_segmentProperty_9 (by decide) (fun c10 => ?_) (fun c10 => ?_)
  · replace hf := ite_f hf c10
    refine lv_aload_n hx hb dX5_segmentProperty_23 rfl (lv_at hl 1 rfl) ?_
    refine gf_12_0 X hW (by decide) mw_251 dX5_segmentProperty_24 ?_
    refine lv_iload_n hx hb dX5_segmentProperty_27 rfl (lv_at hl 2 rfl) ?_
    obtain ⟨m3, e1, hf⟩ := bnd_ex hf
    refine k_v X hW (k_V (As := [.int x1]) (rest := []) X hW hml hl.1 (c_X1_look l g hDW 0 (by decide) _ mm _ e1) (r_recv X hW 6 0 (by decide) (by decide) rfl rfl) ⟨mw_389, kw_X1_look⟩ ⟨⟨rfl, rfl⟩, ko_X1_look, ⟨Nat.le_of_ble_eq_true rfl, Nat.le_of_ble_eq_true rfl⟩⟩ rfl rfl (Nat.le_of_ble_eq_true rfl) dX5_segmentProperty_28 ⟨Nat.le_of_ble_eq_true rfl, Nat.le_of_ble_eq_true rfl⟩) (fun H locs hW => ?_)
    refine lv_iload_n hx hb dX5_segmentProperty_31 rfl (lv_at hl 4 rfl) ?_
    by_cases c5 : x3 = 1
    · replace hf := ite_t hf c5
      refine lv_lookup (off := 28) (tgt := 60) hx hb dX5_segmentProperty_32 (by decide) (by rw [c5]; decide) (by decide) ?_
      refine lv_aload_n hx hb dX5_segmentProperty_60 rfl (lv_at hl 1 rfl) ?_
      refine gf_12_0 X hW (by decide) mw_251 dX5_segmentProperty_61 ?_
      refine gf_6_1 X hW (by decide) mw_196 dX5_segmentProperty_64 ?_
      refine lv_iload hx hb dX5_segmentProperty_67 (lv_at hl 0 rfl) ?_
      obtain ⟨b4, hf⟩ := chk_ex hf
      refine r_iald X hW 7 0 (by decide) (by decide) rfl b4 dX5_segmentProperty_69 ?_
      obtain ⟨hf, hm⟩ := prinj hf
      replace hW := hW.same hm.symm
      exact e_i X hr hW (hf) dX5_segmentProperty_70
    · replace hf := ite_f hf c5
      by_cases c7 : x3 = 2
      · replace hf := ite_t hf c7
        refine lv_lookup (off := 39) (tgt := 71) hx hb dX5_segmentProperty_32 (by decide) (by rw [c7]; decide) (by decide) ?_
        refine lv_aload_n hx hb dX5_segmentProperty_71 rfl (lv_at hl 1 rfl) ?_
        refine gf_12_0 X hW (by decide) mw_251 dX5_segmentProperty_72 ?_
        refine gf_6_2 X hW (by decide) mw_198 dX5_segmentProperty_75 ?_
        refine lv_iload hx hb dX5_segmentProperty_78 (lv_at hl 0 rfl) ?_
        obtain ⟨b6, hf⟩ := chk_ex hf
        refine r_iald X hW 8 0 (by decide) (by decide) rfl b6 dX5_segmentProperty_80 ?_
        obtain ⟨hf, hm⟩ := prinj hf
        replace hW := hW.same hm.symm
        exact e_i X hr hW (hf) dX5_segmentProperty_81
      · replace hf := ite_f hf c7
        refine lv_lookup (off := 50) (tgt := 82) hx hb dX5_segmentProperty_32 (by decide) ((lv_osw c5 (by decide)).trans ((lv_osw c7 (by decide)).trans (rfl))) (by decide) ?_
        refine lv_aload_n hx hb dX5_segmentProperty_82 rfl (lv_at hl 1 rfl) ?_
        refine gf_12_0 X hW (by decide) mw_251 dX5_segmentProperty_83 ?_
        refine gf_6_3 X hW (by decide) mw_200 dX5_segmentProperty_86 ?_
        refine lv_iload hx hb dX5_segmentProperty_89 (lv_at hl 0 rfl) ?_
        obtain ⟨b8, hf⟩ := chk_ex hf
        refine r_iald X hW 9 0 (by decide) (by decide) rfl b8 dX5_segmentProperty_91 ?_
        obtain ⟨hf, hm⟩ := prinj hf
        replace hW := hW.same hm.symm
        exact e_i X hr hW (hf) dX5_segmentProperty_92
  · replace hf := ite_t hf c10
    refine lv_aload_n hx hb dX5_segmentProperty_12 rfl (lv_at hl 1 rfl) ?_
    refine gf_12_1 X hW (by decide) mw_252 dX5_segmentProperty_13 ?_
    refine gf_0_3 X hW (by decide) mw_123 dX5_segmentProperty_16 ?_
    refine lv_iload hx hb dX5_segmentProperty_19 (lv_at hl 0 rfl) ?_
    obtain ⟨b9, hf⟩ := chk_ex hf
    refine r_iald X hW 4 0 (by decide) (by decide) rfl b9 dX5_segmentProperty_21 ?_
    obtain ⟨hf, hm⟩ := prinj hf
    replace hW := hW.same hm.symm
    exact e_i X hr hW (hf) dX5_segmentProperty_22
set_option maxRecDepth 100000 in
set_option maxHeartbeats 4000000 in
theorem c_X5_lightInTick (l : Launch) (g : gG) (hDW : DW g) (x1 : Int32) (mm : gM) (r0 : Int32) (hf : fX5_lightInTick x1 mm = some r0) : Met l yX5_lightInTick (Cond.code yX5_lightInTick cX5_lightInTick 3 (some .int) :: ALLW) rm_X5_lightInTick (CPre g mm [.ref (ad g 12 0), .int x1]) (CI g mm r0) 0 0 (gA g) := by
  refine Met.ofW (cc := cX5_lightInTick) (maxL := 3) (ret := (some .int)) (by decide) rfl ?_
  intro p e s m args below meth c s₁ B hml hv
  obtain ⟨ha, hFx, hP0, hlo⟩ := hv
  have X : Cx g p s m args c meth RX5 cX5_lightInTick := Cx_of hDW hFx hlo B
  have hx := X.1
  have hb := X.2.1
  have hr := B.returns
  have hlocks := X.2.2.2.2.2.2.2
  have hW : Wd g mm s s.heap [] := ⟨hP0, va_S.rf⟩
  rw [ha, lg_entry_eq]
  have hl := lv_entry ([.ref (ad g 12 0), .int x1] : List Value) (n := 3) (Nat.le_of_ble_eq_true rfl)
  generalize (lg_sl ([.ref (ad g 12 0), .int x1] : List Value) ++ List.replicate (3 - (lg_sl ([.ref (ad g 12 0), .int x1] : List Value)).length) Slot.unset).toArray = ls at hl ⊢
  have hl : lv_has ls 3 [(0, .ref (ad g 12 0)), (1, .int x1)] := hl
  rw [← ha]
  show W p l e rm_X5_lightInTick s m args below meth c s.heap [] 0 0 (MQ below (CI g mm r0) args s 0 0 (gA g)) (F0 m 0 ls [])
  unfold fX5_lightInTick at hf
  refine lv_aload_n hx hb dX5_lightInTick_0 rfl (lv_at hl 0 rfl) ?_
  refine gf_12_1 X hW (by decide) mw_252 dX5_lightInTick_1 ?_
  refine lv_iload_n hx hb dX5_lightInTick_4 rfl (lv_at hl 1 rfl) ?_
  obtain ⟨r2, e1, hf⟩ := bnd_ex hf
  refine k_i X hW (k_V (As := [.int x1]) (rest := []) X hW hml hl.1 (c_X2_works l g hDW 0 (by decide) _ mm _ e1) (r_recv X hW 0 0 (by decide) (by decide) rfl rfl) ⟨mw_505, kw_X2_works⟩ ⟨⟨rfl, rfl⟩, ko_X2_works, ⟨Nat.le_of_ble_eq_true rfl, Nat.le_of_ble_eq_true rfl⟩⟩ rfl rfl (Nat.le_of_ble_eq_true rfl) dX5_lightInTick_5 ⟨Nat.le_of_ble_eq_true rfl, Nat.le_of_ble_eq_true rfl⟩) (fun H locs hW => ?_)
  refine lv_istore_n (lv' := [(2, .int r2), (0, .ref (ad g 12 0)), (1, .int x1)]) hx hb dX5_lightInTick_8 rfl hl (by decide) rfl (fun ls hl => ?_)
  refine lv_iload_n hx hb dX5_lightInTick_9 rfl (lv_at hl 0 rfl) ?_
  obtain ⟨r5, e4, hf⟩ := bnd_ex hf
  refine k_i X hW (k_S (As := [.int r2]) (rest := []) X hW hml hl.1 (c_J6_bitCount_0f7a4 l g hDW  _ mm _ e4) ⟨mw_535, kw_J6_bitCount_0f7a4⟩ ⟨⟨rfl, rfl⟩, ko_J6_bitCount_0f7a4, ⟨Nat.le_of_ble_eq_true rfl, Nat.le_of_ble_eq_true rfl⟩⟩ rfl rfl (Nat.le_of_ble_eq_true rfl) dX5_lightInTick_10 ⟨Nat.le_of_ble_eq_true rfl, Nat.le_of_ble_eq_true rfl⟩) (fun H locs hW => ?_)
  refine lv_aload_n hx hb dX5_lightInTick_13 rfl (lv_at hl 1 rfl) ?_
  refine gf_12_1 X hW (by decide) mw_252 dX5_lightInTick_14 ?_
  refine lv_iload_n hx hb dX5_lightInTick_17 rfl (lv_at hl 0 rfl) ?_
  obtain ⟨r8, e7, hf⟩ := bnd_ex hf
  refine k_i X hW (k_V (As := [.int r2]) (rest := [.int r5]) X hW hml hl.1 (c_X2_lightFor l g hDW 0 (by decide) _ mm _ e7) (r_recv X hW 0 0 (by decide) (by decide) rfl rfl) ⟨mw_536, kw_X2_lightFor⟩ ⟨⟨rfl, rfl⟩, ko_X2_lightFor, ⟨Nat.le_of_ble_eq_true rfl, Nat.le_of_ble_eq_true rfl⟩⟩ rfl rfl (Nat.le_of_ble_eq_true rfl) dX5_lightInTick_18 ⟨Nat.le_of_ble_eq_true rfl, Nat.le_of_ble_eq_true rfl⟩) (fun H locs hW => ?_)
  refine lv_imul hx hb dX5_lightInTick_21 ?_
  exact e_i X hr hW (someinj hf) dX5_lightInTick_22
set_option maxRecDepth 100000 in
set_option maxHeartbeats 4000000 in
theorem c_X5_lightByTicks (l : Launch) (g : gG) (hDW : DW g) (mm : gM) (r0 : Int32) (hf : fX5_lightByTicks mm = some r0) : Met l yX5_lightByTicks (Cond.code yX5_lightByTicks cX5_lightByTicks 5 (some .int) :: ALLW) rm_X5_lightByTicks (CPre g mm [.ref (ad g 12 0)]) (CI g mm r0) 0 0 (gA g) := by
  refine Met.ofW (cc := cX5_lightByTicks) (maxL := 5) (ret := (some .int)) (by decide) rfl ?_
  intro p e s m args below meth c s₁ B hml hv
  obtain ⟨ha, hFx, hP0, hlo⟩ := hv
  have X : Cx g p s m args c meth RX5 cX5_lightByTicks := Cx_of hDW hFx hlo B
  have hx := X.1
  have hb := X.2.1
  have hr := B.returns
  have hlocks := X.2.2.2.2.2.2.2
  have hW : Wd g mm s s.heap [] := ⟨hP0, va_S.rf⟩
  rw [ha, lg_entry_eq]
  have hl := lv_entry ([.ref (ad g 12 0)] : List Value) (n := 5) (Nat.le_of_ble_eq_true rfl)
  generalize (lg_sl ([.ref (ad g 12 0)] : List Value) ++ List.replicate (5 - (lg_sl ([.ref (ad g 12 0)] : List Value)).length) Slot.unset).toArray = ls at hl ⊢
  have hl : lv_has ls 5 [(0, .ref (ad g 12 0))] := hl
  rw [← ha]
  show W p l e rm_X5_lightByTicks s m args below meth c s.heap [] 0 0 (MQ below (CI g mm r0) args s 0 0 (gA g)) (F0 m 0 ls [])
  have P_12 : ∀ (n12 : Nat) (x1 : Int32) (x2 : Int32) (x3 : Int32) (H : Heap) (locs : List Loc) (ls : Array Slot), Wd g mm s H locs → lv_has ls 5 [(0, .ref (ad g 12 0)), (1, .int x1), (2, .int x2), (3, .int x3)] → lX5_lightByTicks_12 mm n12 x1 x2 x3 = some r0 → W p l e rm_X5_lightByTicks s m args below meth c H locs 0 0 (MQ below (CI g mm r0) args s 0 0 (gA g)) (F0 m 12 ls []) := by
    intro n12
    induction n12 with
    | zero => intro x1 x2 x3 H locs ls hW hl hf; exact (no_some hf).elim
    | succ n12 ih_12 =>
      have P_42 : ∀ (x1 : Int32) (x2 : Int32) (x3 : Int32) (H : Heap) (locs : List Loc) (ls : Array Slot), Wd g mm s H locs → lv_has ls 5 [(0, .ref (ad g 12 0)), (1, .int x1), (2, .int x2), (3, .int x3)] → jX5_lightByTicks_42 (lX5_lightByTicks_12 mm n12) mm x1 x2 x3 = some r0 → W p l e rm_X5_lightByTicks s m args below meth c H locs 0 0 (MQ below (CI g mm r0) args s 0 0 (gA g)) (F0 m 42 ls []) := by
        intro x1 x2 x3 H locs ls hW hl hf
        unfold jX5_lightByTicks_42 at hf
        refine lv_iinc (v := x3 + 1) (lv' := [(3, .int (x3 + 1)), (0, .ref (ad g 12 0)), (1, .int x1), (2, .int x2)]) hx hb dX5_lightByTicks_42 hl (k := 3) rfl rfl (by decide) rfl (fun ls hl => ?_)
        refine lv_goto (tgt := 12) hx hb dX5_lightByTicks_45 (by decide) ?_
        exact ih_12 _ _ _ _ _ _ hW (lv_sub hl [1, 2, 3, 0] rfl) hf
      intro x1 x2 x3 H locs ls hW hl hf
      rw [lX5_lightByTicks_12_s] at hf
      refine lv_iload_n hx hb dX5_lightByTicks_12 rfl (lv_at hl 3 rfl) ?_
      refine lv_iload_n hx hb dX5_lightByTicks_13 rfl (lv_at hl 2 rfl) ?_
      refine lv_icmp_ge (tgt := 48) hx hb dX5_lightByTicks_14 (by decide) (fun c11 => ?_) (fun c11 => ?_)
      · replace hf := ite_t hf c11
        refine lv_iload_n hx hb dX5_lightByTicks_48 rfl (lv_at hl 1 rfl) ?_
        exact e_i X hr hW (someinj hf) dX5_lightByTicks_49
      · replace hf := ite_f hf c11
        refine lv_aload_n hx hb dX5_lightByTicks_17 rfl (lv_at hl 0 rfl) ?_
        refine gf_12_1 X hW (by decide) mw_252 dX5_lightByTicks_18 ?_
        refine lv_iload_n hx hb dX5_lightByTicks_21 rfl (lv_at hl 3 rfl) ?_
        obtain ⟨r5, e4, hf⟩ := bnd_ex hf
        refine k_i X hW (k_V (As := [.int x3]) (rest := []) X hW hml hl.1 (c_X2_litIn l g hDW 0 (by decide) _ mm _ e4) (r_recv X hW 0 0 (by decide) (by decide) rfl rfl) ⟨mw_523, kw_X2_litIn⟩ ⟨⟨rfl, rfl⟩, ko_X2_litIn, ⟨Nat.le_of_ble_eq_true rfl, Nat.le_of_ble_eq_true rfl⟩⟩ rfl rfl (Nat.le_of_ble_eq_true rfl) dX5_lightByTicks_22 ⟨Nat.le_of_ble_eq_true rfl, Nat.le_of_ble_eq_true rfl⟩) (fun H locs hW => ?_)
        refine lv_istore (lv' := [(4, .int r5), (0, .ref (ad g 12 0)), (1, .int x1), (2, .int x2), (3, .int x3)]) hx hb dX5_lightByTicks_25 hl (by decide) rfl (fun ls hl => ?_)
        refine lv_iload hx hb dX5_lightByTicks_27 (lv_at hl 0 rfl) ?_
        refine lv_iconst (v := -1) hx hb dX5_lightByTicks_29 (by decide) ?_
        refine lv_icmp_eq (tgt := 42) hx hb dX5_lightByTicks_30 (by decide) (fun c10 => ?_) (fun c10 => ?_)
        · replace hf := ite_t hf c10
          exact P_42 _ _ _ _ _ _ hW (lv_sub hl [1, 2, 3, 4] rfl) hf
        · replace hf := ite_f hf c10
          refine lv_iload_n hx hb dX5_lightByTicks_33 rfl (lv_at hl 2 rfl) ?_
          refine lv_aload_n hx hb dX5_lightByTicks_34 rfl (lv_at hl 1 rfl) ?_
          refine lv_iload hx hb dX5_lightByTicks_35 (lv_at hl 0 rfl) ?_
          obtain ⟨r8, e7, hf⟩ := bnd_ex hf
          refine k_i X hW (k_V (As := [.int r5]) (rest := [.int x1]) X hW hml hl.1 (c_X5_lightInTick l g hDW  _ mm _ e7) (r_recv X hW 12 0 (by decide) (by decide) rfl rfl) ⟨mw_531, kw_X5_lightInTick⟩ ⟨⟨rfl, rfl⟩, ko_X5_lightInTick, ⟨Nat.le_of_ble_eq_true rfl, Nat.le_of_ble_eq_true rfl⟩⟩ rfl rfl (Nat.le_of_ble_eq_true rfl) dX5_lightByTicks_37 ⟨Nat.le_of_ble_eq_true rfl, Nat.le_of_ble_eq_true rfl⟩) (fun H locs hW => ?_)
          refine lv_iadd hx hb dX5_lightByTicks_40 ?_
          refine lv_istore_n (lv' := [(1, .int (x1 + r8)), (4, .int r5), (0, .ref (ad g 12 0)), (2, .int x2), (3, .int x3)]) hx hb dX5_lightByTicks_41 rfl hl (by decide) rfl (fun ls hl => ?_)
          exact P_42 _ _ _ _ _ _ hW (lv_sub hl [2, 0, 3, 4] rfl) hf
  unfold fX5_lightByTicks at hf
  refine lv_iconst (v := 0) hx hb dX5_lightByTicks_0 (by decide) ?_
  refine lv_istore_n (lv' := [(1, .int 0), (0, .ref (ad g 12 0))]) hx hb dX5_lightByTicks_1 rfl hl (by decide) rfl (fun ls hl => ?_)
  refine lv_aload_n hx hb dX5_lightByTicks_2 rfl (lv_at hl 1 rfl) ?_
  refine gf_12_1 X hW (by decide) mw_252 dX5_lightByTicks_3 ?_
  obtain ⟨r2, e1, hf⟩ := bnd_ex hf
  refine k_i X hW (k_V (As := []) (rest := []) X hW hml hl.1 (c_X2_roundTicks l g hDW 0 (by decide)  mm _ e1) (r_recv X hW 0 0 (by decide) (by decide) rfl rfl) ⟨mw_496, kw_X2_roundTicks⟩ ⟨⟨rfl, rfl⟩, ko_X2_roundTicks, ⟨Nat.le_of_ble_eq_true rfl, Nat.le_of_ble_eq_true rfl⟩⟩ rfl rfl (Nat.le_of_ble_eq_true rfl) dX5_lightByTicks_6 ⟨Nat.le_of_ble_eq_true rfl, Nat.le_of_ble_eq_true rfl⟩) (fun H locs hW => ?_)
  refine lv_istore_n (lv' := [(2, .int r2), (1, .int 0), (0, .ref (ad g 12 0))]) hx hb dX5_lightByTicks_9 rfl hl (by decide) rfl (fun ls hl => ?_)
  refine lv_iconst (v := 0) hx hb dX5_lightByTicks_10 (by decide) ?_
  refine lv_istore_n (lv' := [(3, .int 0), (2, .int r2), (1, .int 0), (0, .ref (ad g 12 0))]) hx hb dX5_lightByTicks_11 rfl hl (by decide) rfl (fun ls hl => ?_)
  exact P_12 _ _ _ _ _ _ _ hW (lv_sub hl [3, 2, 1, 0] rfl) hf
set_option maxRecDepth 100000 in
set_option maxHeartbeats 4000000 in
theorem c_X5_lightBySlots (l : Launch) (g : gG) (hDW : DW g) (mm : gM) (r0 : Int32) (hf : fX5_lightBySlots mm = some r0) : Met l yX5_lightBySlots (Cond.code yX5_lightBySlots cX5_lightBySlots 3 (some .int) :: ALLW) rm_X5_lightBySlots (CPre g mm [.ref (ad g 12 0)]) (CI g mm r0) 0 0 (gA g) := by
  refine Met.ofW (cc := cX5_lightBySlots) (maxL := 3) (ret := (some .int)) (by decide) rfl ?_
  intro p e s m args below meth c s₁ B hml hv
  obtain ⟨ha, hFx, hP0, hlo⟩ := hv
  have X : Cx g p s m args c meth RX5 cX5_lightBySlots := Cx_of hDW hFx hlo B
  have hx := X.1
  have hb := X.2.1
  have hr := B.returns
  have hlocks := X.2.2.2.2.2.2.2
  have hW : Wd g mm s s.heap [] := ⟨hP0, va_S.rf⟩
  rw [ha, lg_entry_eq]
  have hl := lv_entry ([.ref (ad g 12 0)] : List Value) (n := 3) (Nat.le_of_ble_eq_true rfl)
  generalize (lg_sl ([.ref (ad g 12 0)] : List Value) ++ List.replicate (3 - (lg_sl ([.ref (ad g 12 0)] : List Value)).length) Slot.unset).toArray = ls at hl ⊢
  have hl : lv_has ls 3 [(0, .ref (ad g 12 0))] := hl
  rw [← ha]
  show W p l e rm_X5_lightBySlots s m args below meth c s.heap [] 0 0 (MQ below (CI g mm r0) args s 0 0 (gA g)) (F0 m 0 ls [])
  have P_4 : ∀ (n4 : Nat) (x1 : Int32) (x2 : Int32) (H : Heap) (locs : List Loc) (ls : Array Slot), Wd g mm s H locs → lv_has ls 3 [(0, .ref (ad g 12 0)), (1, .int x1), (2, .int x2)] → lX5_lightBySlots_4 mm n4 x1 x2 = some r0 → W p l e rm_X5_lightBySlots s m args below meth c H locs 0 0 (MQ below (CI g mm r0) args s 0 0 (gA g)) (F0 m 4 ls []) := by
    intro n4
    induction n4 with
    | zero => intro x1 x2 H locs ls hW hl hf; exact (no_some hf).elim
    | succ n4 ih_4 =>
      intro x1 x2 H locs ls hW hl hf
      rw [lX5_lightBySlots_4_s] at hf
      refine lv_iload_n hx hb dX5_lightBySlots_4 rfl (lv_at hl 2 rfl) ?_
      refine lv_bipush (v := 6) hx hb dX5_lightBySlots_5 (by decide) ?_
      refine lv_icmp_ge (tgt := 34) hx hb dX5_lightBySlots_7 (by decide) (fun c6 => ?_) (fun c6 => ?_)
      · replace hf := ite_t hf c6
        refine lv_iload_n hx hb dX5_lightBySlots_34 rfl (lv_at hl 1 rfl) ?_
        exact e_i X hr hW (someinj hf) dX5_lightBySlots_35
      · replace hf := ite_f hf c6
        refine lv_iload_n hx hb dX5_lightBySlots_10 rfl (lv_at hl 1 rfl) ?_
        refine lv_aload_n hx hb dX5_lightBySlots_11 rfl (lv_at hl 0 rfl) ?_
        refine gf_12_1 X hW (by decide) mw_252 dX5_lightBySlots_12 ?_
        refine gf_0_2 X hW (by decide) mw_120 dX5_lightBySlots_15 ?_
        refine lv_iload_n hx hb dX5_lightBySlots_18 rfl (lv_at hl 2 rfl) ?_
        obtain ⟨b1, hf⟩ := chk_ex hf
        refine r_iald X hW 3 0 (by decide) (by decide) rfl b1 dX5_lightBySlots_19 ?_
        refine lv_aload_n hx hb dX5_lightBySlots_20 rfl (lv_at hl 0 rfl) ?_
        refine lv_iload_n hx hb dX5_lightBySlots_21 rfl (lv_at hl 2 rfl) ?_
        obtain ⟨r3, e2, hf⟩ := bnd_ex hf
        refine k_i X hW (k_V (As := [.int x2]) (rest := [.int (gi mm 3 0 x2.toNatClampNeg), .int x1]) X hW hml hl.1 (c_X5_lightInTick l g hDW  _ mm _ e2) (r_recv X hW 12 0 (by decide) (by decide) rfl rfl) ⟨mw_531, kw_X5_lightInTick⟩ ⟨⟨rfl, rfl⟩, ko_X5_lightInTick, ⟨Nat.le_of_ble_eq_true rfl, Nat.le_of_ble_eq_true rfl⟩⟩ rfl rfl (Nat.le_of_ble_eq_true rfl) dX5_lightBySlots_22 ⟨Nat.le_of_ble_eq_true rfl, Nat.le_of_ble_eq_true rfl⟩) (fun H locs hW => ?_)
        refine lv_imul hx hb dX5_lightBySlots_25 ?_
        refine lv_iadd hx hb dX5_lightBySlots_26 ?_
        obtain ⟨v5, ex, hf⟩ := wth_ex hf
        refine lv_nm ex ?_
        clear ex
        refine lv_istore_n (lv' := [(1, .int v5), (0, .ref (ad g 12 0)), (2, .int x2)]) hx hb dX5_lightBySlots_27 rfl hl (by decide) rfl (fun ls hl => ?_)
        refine lv_iinc (v := x2 + 1) (lv' := [(2, .int (x2 + 1)), (1, .int v5), (0, .ref (ad g 12 0))]) hx hb dX5_lightBySlots_28 hl (k := 2) rfl rfl (by decide) rfl (fun ls hl => ?_)
        refine lv_goto (tgt := 4) hx hb dX5_lightBySlots_31 (by decide) ?_
        exact ih_4 _ _ _ _ _ hW (lv_sub hl [2, 1, 0] rfl) hf
  unfold fX5_lightBySlots at hf
  refine lv_iconst (v := 0) hx hb dX5_lightBySlots_0 (by decide) ?_
  refine lv_istore_n (lv' := [(1, .int 0), (0, .ref (ad g 12 0))]) hx hb dX5_lightBySlots_1 rfl hl (by decide) rfl (fun ls hl => ?_)
  refine lv_iconst (v := 0) hx hb dX5_lightBySlots_2 (by decide) ?_
  refine lv_istore_n (lv' := [(2, .int 0), (1, .int 0), (0, .ref (ad g 12 0))]) hx hb dX5_lightBySlots_3 rfl hl (by decide) rfl (fun ls hl => ?_)
  exact P_4 _ _ _ _ _ _ hW (lv_sub hl [2, 1, 0] rfl) hf
set_option maxRecDepth 100000 in
set_option maxHeartbeats 4000000 in
theorem c_X5_workingSlots (l : Launch) (g : gG) (hDW : DW g) (mm : gM) (r0 : Int32) (hf : fX5_workingSlots mm = some r0) : Met l yX5_workingSlots (Cond.code yX5_workingSlots cX5_workingSlots 3 (some .int) :: ALLW) rm_X5_workingSlots (CPre g mm [.ref (ad g 12 0)]) (CI g mm r0) 0 0 (gA g) := by
  refine Met.ofW (cc := cX5_workingSlots) (maxL := 3) (ret := (some .int)) (by decide) rfl ?_
  intro p e s m args below meth c s₁ B hml hv
  obtain ⟨ha, hFx, hP0, hlo⟩ := hv
  have X : Cx g p s m args c meth RX5 cX5_workingSlots := Cx_of hDW hFx hlo B
  have hx := X.1
  have hb := X.2.1
  have hr := B.returns
  have hlocks := X.2.2.2.2.2.2.2
  have hW : Wd g mm s s.heap [] := ⟨hP0, va_S.rf⟩
  rw [ha, lg_entry_eq]
  have hl := lv_entry ([.ref (ad g 12 0)] : List Value) (n := 3) (Nat.le_of_ble_eq_true rfl)
  generalize (lg_sl ([.ref (ad g 12 0)] : List Value) ++ List.replicate (3 - (lg_sl ([.ref (ad g 12 0)] : List Value)).length) Slot.unset).toArray = ls at hl ⊢
  have hl : lv_has ls 3 [(0, .ref (ad g 12 0))] := hl
  rw [← ha]
  show W p l e rm_X5_workingSlots s m args below meth c s.heap [] 0 0 (MQ below (CI g mm r0) args s 0 0 (gA g)) (F0 m 0 ls [])
  have P_4 : ∀ (n4 : Nat) (x1 : Int32) (x2 : Int32) (H : Heap) (locs : List Loc) (ls : Array Slot), Wd g mm s H locs → lv_has ls 3 [(0, .ref (ad g 12 0)), (1, .int x1), (2, .int x2)] → lX5_workingSlots_4 mm n4 x1 x2 = some r0 → W p l e rm_X5_workingSlots s m args below meth c H locs 0 0 (MQ below (CI g mm r0) args s 0 0 (gA g)) (F0 m 4 ls []) := by
    intro n4
    induction n4 with
    | zero => intro x1 x2 H locs ls hW hl hf; exact (no_some hf).elim
    | succ n4 ih_4 =>
      have P_24 : ∀ (x1 : Int32) (x2 : Int32) (H : Heap) (locs : List Loc) (ls : Array Slot), Wd g mm s H locs → lv_has ls 3 [(0, .ref (ad g 12 0)), (1, .int x1), (2, .int x2)] → jX5_workingSlots_24 (lX5_workingSlots_4 mm n4) mm x1 x2 = some r0 → W p l e rm_X5_workingSlots s m args below meth c H locs 0 0 (MQ below (CI g mm r0) args s 0 0 (gA g)) (F0 m 24 ls []) := by
        intro x1 x2 H locs ls hW hl hf
        unfold jX5_workingSlots_24 at hf
        refine lv_iinc (v := x2 + 1) (lv' := [(2, .int (x2 + 1)), (0, .ref (ad g 12 0)), (1, .int x1)]) hx hb dX5_workingSlots_24 hl (k := 2) rfl rfl (by decide) rfl (fun ls hl => ?_)
        refine lv_goto (tgt := 4) hx hb dX5_workingSlots_27 (by decide) ?_
        exact ih_4 _ _ _ _ _ hW (lv_sub hl [1, 2, 0] rfl) hf
      intro x1 x2 H locs ls hW hl hf
      rw [lX5_workingSlots_4_s] at hf
      refine lv_iload_n hx hb dX5_workingSlots_4 rfl (lv_at hl 2 rfl) ?_
      refine lv_bipush (v := 6) hx hb dX5_workingSlots_5 (by decide) ?_
      refine lv_icmp_ge (tgt := 30) hx hb dX5_workingSlots_7 (by decide) (fun c5 => ?_) (fun c5 => ?_)
      · replace hf := ite_t hf c5
        refine lv_iload_n hx hb dX5_workingSlots_30 rfl (lv_at hl 1 rfl) ?_
        exact e_i X hr hW (someinj hf) dX5_workingSlots_31
      · replace hf := ite_f hf c5
        refine lv_aload_n hx hb dX5_workingSlots_10 rfl (lv_at hl 0 rfl) ?_
        refine gf_12_1 X hW (by decide) mw_252 dX5_workingSlots_11 ?_
        refine lv_iload_n hx hb dX5_workingSlots_14 rfl (lv_at hl 2 rfl) ?_
        obtain ⟨r2, e1, hf⟩ := bnd_ex hf
        refine k_i X hW (k_V (As := [.int x2]) (rest := []) X hW hml hl.1 (c_X2_works l g hDW 0 (by decide) _ mm _ e1) (r_recv X hW 0 0 (by decide) (by decide) rfl rfl) ⟨mw_505, kw_X2_works⟩ ⟨⟨rfl, rfl⟩, ko_X2_works, ⟨Nat.le_of_ble_eq_true rfl, Nat.le_of_ble_eq_true rfl⟩⟩ rfl rfl (Nat.le_of_ble_eq_true rfl) dX5_workingSlots_15 ⟨Nat.le_of_ble_eq_true rfl, Nat.le_of_ble_eq_true rfl⟩) (fun H locs hW => ?_)
        refine lv_if_eq (tgt := 24) hx hb dX5_workingSlots_18 (by decide) (fun c4 => ?_) (fun c4 => ?_)
        · replace hf := ite_t hf c4
          exact P_24 _ _ _ _ _ hW (lv_sub hl [0, 1, 2] rfl) hf
        · replace hf := ite_f hf c4
          refine lv_iinc (v := x1 + 1) (lv' := [(1, .int (x1 + 1)), (0, .ref (ad g 12 0)), (2, .int x2)]) hx hb dX5_workingSlots_21 hl (k := 1) rfl rfl (by decide) rfl (fun ls hl => ?_)
          exact P_24 _ _ _ _ _ hW (lv_sub hl [1, 0, 2] rfl) hf
  unfold fX5_workingSlots at hf
  refine lv_iconst (v := 0) hx hb dX5_workingSlots_0 (by decide) ?_
  refine lv_istore_n (lv' := [(1, .int 0), (0, .ref (ad g 12 0))]) hx hb dX5_workingSlots_1 rfl hl (by decide) rfl (fun ls hl => ?_)
  refine lv_iconst (v := 0) hx hb dX5_workingSlots_2 (by decide) ?_
  refine lv_istore_n (lv' := [(2, .int 0), (1, .int 0), (0, .ref (ad g 12 0))]) hx hb dX5_workingSlots_3 rfl hl (by decide) rfl (fun ls hl => ?_)
  exact P_4 _ _ _ _ _ _ hW (lv_sub hl [2, 1, 0] rfl) hf
