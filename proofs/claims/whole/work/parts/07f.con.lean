set_option maxRecDepth 100000 in
set_option maxHeartbeats 4000000 in
theorem c_X6_keep (l : Launch) (g : gG) (hDW : DW g) (x1 : Int32) (mm : gM) (r0 : Int32) (mZ : gM) (hf : fX6_keep x1 mm = some (r0, mZ)) : Met l yX6_keep (Cond.code yX6_keep cX6_keep 3 (some .int) :: ALLW) rm_X6_keep (CPre g mm [.ref (ad g 21 0), .int x1]) (CI g mZ r0) 0 0 (gA g) := by
  refine Met.ofW (cc := cX6_keep) (maxL := 3) (ret := (some .int)) (by decide) rfl ?_
  intro p e s m args below meth c s₁ B hml hv
  obtain ⟨ha, hFx, hP0, hlo⟩ := hv
  have X : Cx g p s m args c meth RX6 cX6_keep := Cx_of hDW hFx hlo B
  have hx := X.1
  have hb := X.2.1
  have hr := B.returns
  have hlocks := X.2.2.2.2.2.2.2
  have hW : Wd g mm s s.heap [] := ⟨hP0, va_S.rf⟩
  rw [ha, lg_entry_eq]
  have hl := lv_entry ([.ref (ad g 21 0), .int x1] : List Value) (n := 3) (Nat.le_of_ble_eq_true rfl)
  generalize (lg_sl ([.ref (ad g 21 0), .int x1] : List Value) ++ List.replicate (3 - (lg_sl ([.ref (ad g 21 0), .int x1] : List Value)).length) Slot.unset).toArray = ls at hl ⊢
  have hl : lv_has ls 3 [(0, .ref (ad g 21 0)), (1, .int x1)] := hl
  rw [← ha]
  show W p l e rm_X6_keep s m args below meth c s.heap [] 0 0 (MQ below (CI g mZ r0) args s 0 0 (gA g)) (F0 m 0 ls [])
  have P_51 : ∀ (x1 : Int32) (mm : gM) (H : Heap) (locs : List Loc) (ls : Array Slot), Wd g mm s H locs → lv_has ls 3 [(0, .ref (ad g 21 0)), (1, .int x1)] → jX6_keep_51 x1 mm = some (r0, mZ) → W p l e rm_X6_keep s m args below meth c H locs 0 0 (MQ below (CI g mZ r0) args s 0 0 (gA g)) (F0 m 51 ls []) := by
    intro x1 mm H locs ls hW hl hf
    unfold jX6_keep_51 at hf
    refine lv_aload_n hx hb dX6_keep_51 rfl (lv_at hl 0 rfl) ?_
    refine gf_21_5 X hW (by decide) mw_952 dX6_keep_52 ?_
    refine lv_iload_n hx hb dX6_keep_55 rfl (lv_at hl 1 rfl) ?_
    refine lv_iconst (v := 1) hx hb dX6_keep_56 (by decide) ?_
    obtain ⟨b13, hf⟩ := chk_ex hf
    obtain ⟨m14, ex, hf⟩ := wth_ex hf
    refine r_zast X hW 25 0 (by decide) (by decide) (fun _ => rfl) b13 dX6_keep_57 (fun H locs hW => ?_)
    replace hW := hW.same ex
    clear ex
    refine lv_aload_n hx hb dX6_keep_58 rfl (lv_at hl 0 rfl) ?_
    refine gf_21_1 X hW (by decide) mw_948 dX6_keep_59 ?_
    refine lv_iconst (v := 5) hx hb dX6_keep_62 (by decide) ?_
    obtain ⟨b15, hf⟩ := chk_ex hf
    refine r_iald X hW 22 0 (by decide) (by decide) rfl b15 dX6_keep_63 ?_
    obtain ⟨hf, hm⟩ := prinj hf
    replace hW := hW.same hm.symm
    exact e_i X hr hW (hf) dX6_keep_64
  have P_22 : ∀ (n22 : Nat) (x1 : Int32) (x2 : Int32) (mm : gM) (H : Heap) (locs : List Loc) (ls : Array Slot), Wd g mm s H locs → lv_has ls 3 [(0, .ref (ad g 21 0)), (1, .int x1), (2, .int x2)] → lX6_keep_22 n22 x1 x2 mm = some (r0, mZ) → W p l e rm_X6_keep s m args below meth c H locs 0 0 (MQ below (CI g mZ r0) args s 0 0 (gA g)) (F0 m 22 ls []) := by
    intro n22
    induction n22 with
    | zero => intro x1 x2 mm H locs ls hW hl hf; exact (no_some hf).elim
    | succ n22 ih_22 =>
      intro x1 x2 mm H locs ls hW hl hf
      rw [lX6_keep_22_s] at hf
      refine lv_iload_n hx hb dX6_keep_22 rfl (lv_at hl 2 rfl) ?_
      refine lv_bipush (v := 80) hx hb dX6_keep_23 (by decide) ?_
      refine lv_icmp_ge (tgt := 51) hx hb dX6_keep_25 (by decide) (fun c12 => ?_) (fun c12 => ?_)
      · replace hf := ite_t hf c12
        exact P_51 _ _ _ _ _ hW (lv_sub hl [0, 1] rfl) hf
      · replace hf := ite_f hf c12
        refine lv_aload_n hx hb dX6_keep_28 rfl (lv_at hl 0 rfl) ?_
        refine gf_21_4 X hW (by decide) mw_951 dX6_keep_29 ?_
        refine lv_bipush (v := 80) hx hb dX6_keep_32 (by decide) ?_
        refine lv_iload_n hx hb dX6_keep_34 rfl (lv_at hl 1 rfl) ?_
        refine lv_imul hx hb dX6_keep_35 ?_
        refine lv_iload_n hx hb dX6_keep_36 rfl (lv_at hl 2 rfl) ?_
        refine lv_iadd hx hb dX6_keep_37 ?_
        refine lv_aload_n hx hb dX6_keep_38 rfl (lv_at hl 0 rfl) ?_
        refine gf_21_1 X hW (by decide) mw_948 dX6_keep_39 ?_
        refine lv_iload_n hx hb dX6_keep_42 rfl (lv_at hl 2 rfl) ?_
        obtain ⟨b9, hf⟩ := chk_ex hf
        refine r_iald X hW 22 0 (by decide) (by decide) rfl b9 dX6_keep_43 ?_
        obtain ⟨b10, hf⟩ := chk_ex hf
        obtain ⟨m11, ex, hf⟩ := wth_ex hf
        refine r_iast X hW 24 0 (by decide) (by decide) (fun _ => rfl) b10 dX6_keep_44 (fun H locs hW => ?_)
        replace hW := hW.same ex
        clear ex
        refine lv_iinc (v := x2 + 1) (lv' := [(2, .int (x2 + 1)), (0, .ref (ad g 21 0)), (1, .int x1)]) hx hb dX6_keep_45 hl (k := 2) rfl rfl (by decide) rfl (fun ls hl => ?_)
        refine lv_goto (tgt := 22) hx hb dX6_keep_48 (by decide) ?_
        exact ih_22 _ _ _ _ _ _ hW (lv_sub hl [1, 2, 0] rfl) hf
  unfold fX6_keep at hf
  refine lv_aload_n hx hb dX6_keep_0 rfl (lv_at hl 0 rfl) ?_
  refine lv_iconst (v := 0) hx hb dX6_keep_1 (by decide) ?_
  obtain ⟨m1, ex, hf⟩ := wth_ex hf
  refine pf_21_0 X hW (by decide) mw_947 dX6_keep_2 (fun H locs hW => ?_)
  replace hW := hW.same ex
  clear ex
  refine lv_iload_n hx hb dX6_keep_5 rfl (lv_at hl 1 rfl) ?_
  refine lv_iconst (v := 0) hx hb dX6_keep_6 (by decide) ?_
  refine lv_iconst (v := 1) hx hb dX6_keep_7 (by decide) ?_
  obtain ⟨r3, e2, hf⟩ := bnd_ex hf
  refine k_i X hW (k_S (As := [.int x1, .int 0, .int 1]) (rest := []) X hW hml hl.1 (c_X6_in l g hDW  _ _ _ m1 _ e2) ⟨mw_1016, kw_X6_in⟩ ⟨⟨rfl, rfl⟩, ko_X6_in, ⟨Nat.le_of_ble_eq_true rfl, Nat.le_of_ble_eq_true rfl⟩⟩ rfl rfl (Nat.le_of_ble_eq_true rfl) dX6_keep_8 ⟨Nat.le_of_ble_eq_true rfl, Nat.le_of_ble_eq_true rfl⟩) (fun H locs hW => ?_)
  refine lv_if_ne (tgt := 20) hx hb dX6_keep_11 (by decide) (fun c8 => ?_) (fun c8 => ?_)
  · replace hf := ite_f hf c8
    refine lv_iconst (v := 0) hx hb dX6_keep_20 (by decide) ?_
    refine lv_istore_n (lv' := [(2, .int 0), (0, .ref (ad g 21 0)), (1, .int x1)]) hx hb dX6_keep_21 rfl hl (by decide) rfl (fun ls hl => ?_)
    exact P_22 _ _ _ _ _ _ _ hW (lv_sub hl [1, 2, 0] rfl) hf
  · replace hf := ite_t hf c8
    refine lv_aload_n hx hb dX6_keep_14 rfl (lv_at hl 0 rfl) ?_
    refine lv_iconst (v := 1) hx hb dX6_keep_15 (by decide) ?_
    obtain ⟨r6, m7, e5, hf⟩ := bn2_ex hf
    refine k_i X hW (k_V (As := [.int 1]) (rest := []) X hW hml hl.1 (c_X6_fails l g hDW  _ m1 _ _ e5) (r_recv X hW 21 0 (by decide) (by decide) rfl rfl) ⟨mw_1019, kw_X6_fails⟩ ⟨⟨rfl, rfl⟩, ko_X6_fails, ⟨Nat.le_of_ble_eq_true rfl, Nat.le_of_ble_eq_true rfl⟩⟩ rfl rfl (Nat.le_of_ble_eq_true rfl) dX6_keep_16 ⟨Nat.le_of_ble_eq_true rfl, Nat.le_of_ble_eq_true rfl⟩) (fun H locs hW => ?_)
    obtain ⟨hf, hm⟩ := prinj hf
    replace hW := hW.same hm.symm
    exact e_i X hr hW (hf) dX6_keep_19
set_option maxRecDepth 100000 in
set_option maxHeartbeats 4000000 in
theorem c_X6_goBack (l : Launch) (g : gG) (hDW : DW g) (x1 : Int32) (mm : gM) (r0 : Int32) (mZ : gM) (hf : fX6_goBack x1 mm = some (r0, mZ)) : Met l yX6_goBack (Cond.code yX6_goBack cX6_goBack 3 (some .int) :: ALLW) rm_X6_goBack (CPre g mm [.ref (ad g 21 0), .int x1]) (CI g mZ r0) 0 0 (gA g) := by
  refine Met.ofW (cc := cX6_goBack) (maxL := 3) (ret := (some .int)) (by decide) rfl ?_
  intro p e s m args below meth c s₁ B hml hv
  obtain ⟨ha, hFx, hP0, hlo⟩ := hv
  have X : Cx g p s m args c meth RX6 cX6_goBack := Cx_of hDW hFx hlo B
  have hx := X.1
  have hb := X.2.1
  have hr := B.returns
  have hlocks := X.2.2.2.2.2.2.2
  have hW : Wd g mm s s.heap [] := ⟨hP0, va_S.rf⟩
  rw [ha, lg_entry_eq]
  have hl := lv_entry ([.ref (ad g 21 0), .int x1] : List Value) (n := 3) (Nat.le_of_ble_eq_true rfl)
  generalize (lg_sl ([.ref (ad g 21 0), .int x1] : List Value) ++ List.replicate (3 - (lg_sl ([.ref (ad g 21 0), .int x1] : List Value)).length) Slot.unset).toArray = ls at hl ⊢
  have hl : lv_has ls 3 [(0, .ref (ad g 21 0)), (1, .int x1)] := hl
  rw [← ha]
  show W p l e rm_X6_goBack s m args below meth c s.heap [] 0 0 (MQ below (CI g mZ r0) args s 0 0 (gA g)) (F0 m 0 ls [])
  have P_70 : ∀ (mm : gM) (H : Heap) (locs : List Loc) (ls : Array Slot), Wd g mm s H locs → lv_has ls 3 [(0, .ref (ad g 21 0))] → jX6_goBack_70 mm = some (r0, mZ) → W p l e rm_X6_goBack s m args below meth c H locs 0 0 (MQ below (CI g mZ r0) args s 0 0 (gA g)) (F0 m 70 ls []) := by
    intro mm H locs ls hW hl hf
    unfold jX6_goBack_70 at hf
    refine lv_aload_n hx hb dX6_goBack_70 rfl (lv_at hl 0 rfl) ?_
    refine gf_21_1 X hW (by decide) mw_948 dX6_goBack_71 ?_
    refine lv_iconst (v := 5) hx hb dX6_goBack_74 (by decide) ?_
    obtain ⟨b21, hf⟩ := chk_ex hf
    refine r_iald X hW 22 0 (by decide) (by decide) rfl b21 dX6_goBack_75 ?_
    obtain ⟨hf, hm⟩ := prinj hf
    replace hW := hW.same hm.symm
    exact e_i X hr hW (hf) dX6_goBack_76
  have P_41 : ∀ (n41 : Nat) (x1 : Int32) (x2 : Int32) (mm : gM) (H : Heap) (locs : List Loc) (ls : Array Slot), Wd g mm s H locs → lv_has ls 3 [(0, .ref (ad g 21 0)), (1, .int x1), (2, .int x2)] → lX6_goBack_41 n41 x1 x2 mm = some (r0, mZ) → W p l e rm_X6_goBack s m args below meth c H locs 0 0 (MQ below (CI g mZ r0) args s 0 0 (gA g)) (F0 m 41 ls []) := by
    intro n41
    induction n41 with
    | zero => intro x1 x2 mm H locs ls hW hl hf; exact (no_some hf).elim
    | succ n41 ih_41 =>
      intro x1 x2 mm H locs ls hW hl hf
      rw [lX6_goBack_41_s] at hf
      refine lv_iload_n hx hb dX6_goBack_41 rfl (lv_at hl 2 rfl) ?_
      refine lv_bipush (v := 80) hx hb dX6_goBack_42 (by decide) ?_
      refine lv_icmp_ge (tgt := 70) hx hb dX6_goBack_44 (by decide) (fun c20 => ?_) (fun c20 => ?_)
      · replace hf := ite_t hf c20
        exact P_70 _ _ _ _ hW (lv_sub hl [0] rfl) hf
      · replace hf := ite_f hf c20
        refine lv_aload_n hx hb dX6_goBack_47 rfl (lv_at hl 0 rfl) ?_
        refine gf_21_1 X hW (by decide) mw_948 dX6_goBack_48 ?_
        refine lv_iload_n hx hb dX6_goBack_51 rfl (lv_at hl 2 rfl) ?_
        refine lv_aload_n hx hb dX6_goBack_52 rfl (lv_at hl 0 rfl) ?_
        refine gf_21_4 X hW (by decide) mw_951 dX6_goBack_53 ?_
        refine lv_bipush (v := 80) hx hb dX6_goBack_56 (by decide) ?_
        refine lv_iload_n hx hb dX6_goBack_58 rfl (lv_at hl 1 rfl) ?_
        refine lv_imul hx hb dX6_goBack_59 ?_
        refine lv_iload_n hx hb dX6_goBack_60 rfl (lv_at hl 2 rfl) ?_
        refine lv_iadd hx hb dX6_goBack_61 ?_
        obtain ⟨b17, hf⟩ := chk_ex hf
        refine r_iald X hW 24 0 (by decide) (by decide) rfl b17 dX6_goBack_62 ?_
        obtain ⟨b18, hf⟩ := chk_ex hf
        obtain ⟨m19, ex, hf⟩ := wth_ex hf
        refine r_iast X hW 22 0 (by decide) (by decide) (fun _ => rfl) b18 dX6_goBack_63 (fun H locs hW => ?_)
        replace hW := hW.same ex
        clear ex
        refine lv_iinc (v := x2 + 1) (lv' := [(2, .int (x2 + 1)), (0, .ref (ad g 21 0)), (1, .int x1)]) hx hb dX6_goBack_64 hl (k := 2) rfl rfl (by decide) rfl (fun ls hl => ?_)
        refine lv_goto (tgt := 41) hx hb dX6_goBack_67 (by decide) ?_
        exact ih_41 _ _ _ _ _ _ hW (lv_sub hl [1, 2, 0] rfl) hf
  unfold fX6_goBack at hf
  refine lv_aload_n hx hb dX6_goBack_0 rfl (lv_at hl 0 rfl) ?_
  refine lv_iconst (v := 0) hx hb dX6_goBack_1 (by decide) ?_
  obtain ⟨m1, ex, hf⟩ := wth_ex hf
  refine pf_21_0 X hW (by decide) mw_947 dX6_goBack_2 (fun H locs hW => ?_)
  replace hW := hW.same ex
  clear ex
  refine lv_iload_n hx hb dX6_goBack_5 rfl (lv_at hl 1 rfl) ?_
  refine lv_iconst (v := 0) hx hb dX6_goBack_6 (by decide) ?_
  refine lv_iconst (v := 1) hx hb dX6_goBack_7 (by decide) ?_
  obtain ⟨r3, e2, hf⟩ := bnd_ex hf
  refine k_i X hW (k_S (As := [.int x1, .int 0, .int 1]) (rest := []) X hW hml hl.1 (c_X6_in l g hDW  _ _ _ m1 _ e2) ⟨mw_1016, kw_X6_in⟩ ⟨⟨rfl, rfl⟩, ko_X6_in, ⟨Nat.le_of_ble_eq_true rfl, Nat.le_of_ble_eq_true rfl⟩⟩ rfl rfl (Nat.le_of_ble_eq_true rfl) dX6_goBack_8 ⟨Nat.le_of_ble_eq_true rfl, Nat.le_of_ble_eq_true rfl⟩) (fun H locs hW => ?_)
  refine lv_if_ne (tgt := 20) hx hb dX6_goBack_11 (by decide) (fun c16 => ?_) (fun c16 => ?_)
  · replace hf := ite_f hf c16
    refine lv_aload_n hx hb dX6_goBack_20 rfl (lv_at hl 0 rfl) ?_
    refine gf_21_5 X hW (by decide) mw_952 dX6_goBack_21 ?_
    refine lv_iload_n hx hb dX6_goBack_24 rfl (lv_at hl 1 rfl) ?_
    obtain ⟨b5, hf⟩ := chk_ex hf
    refine r_zald X hW 25 0 (by decide) (by decide) rfl b5 dX6_goBack_25 ?_
    refine lv_if_ne (tgt := 35) hx hb dX6_goBack_26 (by decide) (fun c12 => ?_) (fun c12 => ?_)
    · replace hf := ite_f hf c12
      refine lv_aload_n hx hb dX6_goBack_35 rfl (lv_at hl 0 rfl) ?_
      obtain ⟨m8, e6, hf⟩ := bnd_ex hf
      refine k_v X hW (k_V (As := []) (rest := []) X hW hml hl.1 (c_X6_saves l g hDW   m1 _ e6) (r_recv X hW 21 0 (by decide) (by decide) rfl rfl) ⟨mw_1023, kw_X6_saves⟩ ⟨⟨rfl, rfl⟩, ko_X6_saves, ⟨Nat.le_of_ble_eq_true rfl, Nat.le_of_ble_eq_true rfl⟩⟩ rfl rfl (Nat.le_of_ble_eq_true rfl) dX6_goBack_36 ⟨Nat.le_of_ble_eq_true rfl, Nat.le_of_ble_eq_true rfl⟩) (fun H locs hW => ?_)
      refine lv_iconst (v := 0) hx hb dX6_goBack_39 (by decide) ?_
      refine lv_istore_n (lv' := [(2, .int 0), (0, .ref (ad g 21 0)), (1, .int x1)]) hx hb dX6_goBack_40 rfl hl (by decide) rfl (fun ls hl => ?_)
      exact P_41 _ _ _ _ _ _ _ hW (lv_sub hl [1, 2, 0] rfl) hf
    · replace hf := ite_t hf c12
      refine lv_aload_n hx hb dX6_goBack_29 rfl (lv_at hl 0 rfl) ?_
      refine lv_iconst (v := 2) hx hb dX6_goBack_30 (by decide) ?_
      obtain ⟨r10, m11, e9, hf⟩ := bn2_ex hf
      refine k_i X hW (k_V (As := [.int 2]) (rest := []) X hW hml hl.1 (c_X6_fails l g hDW  _ m1 _ _ e9) (r_recv X hW 21 0 (by decide) (by decide) rfl rfl) ⟨mw_1019, kw_X6_fails⟩ ⟨⟨rfl, rfl⟩, ko_X6_fails, ⟨Nat.le_of_ble_eq_true rfl, Nat.le_of_ble_eq_true rfl⟩⟩ rfl rfl (Nat.le_of_ble_eq_true rfl) dX6_goBack_31 ⟨Nat.le_of_ble_eq_true rfl, Nat.le_of_ble_eq_true rfl⟩) (fun H locs hW => ?_)
      obtain ⟨hf, hm⟩ := prinj hf
      replace hW := hW.same hm.symm
      exact e_i X hr hW (hf) dX6_goBack_34
  · replace hf := ite_t hf c16
    refine lv_aload_n hx hb dX6_goBack_14 rfl (lv_at hl 0 rfl) ?_
    refine lv_iconst (v := 1) hx hb dX6_goBack_15 (by decide) ?_
    obtain ⟨r14, m15, e13, hf⟩ := bn2_ex hf
    refine k_i X hW (k_V (As := [.int 1]) (rest := []) X hW hml hl.1 (c_X6_fails l g hDW  _ m1 _ _ e13) (r_recv X hW 21 0 (by decide) (by decide) rfl rfl) ⟨mw_1019, kw_X6_fails⟩ ⟨⟨rfl, rfl⟩, ko_X6_fails, ⟨Nat.le_of_ble_eq_true rfl, Nat.le_of_ble_eq_true rfl⟩⟩ rfl rfl (Nat.le_of_ble_eq_true rfl) dX6_goBack_16 ⟨Nat.le_of_ble_eq_true rfl, Nat.le_of_ble_eq_true rfl⟩) (fun H locs hW => ?_)
    obtain ⟨hf, hm⟩ := prinj hf
    replace hW := hW.same hm.symm
    exact e_i X hr hW (hf) dX6_goBack_19
set_option maxRecDepth 100000 in
set_option maxHeartbeats 4000000 in
theorem c_X6_undo (l : Launch) (g : gG) (hDW : DW g) (mm : gM) (r0 : Int32) (mZ : gM) (hf : fX6_undo mm = some (r0, mZ)) : Met l yX6_undo (Cond.code yX6_undo cX6_undo 2 (some .int) :: ALLW) rm_X6_undo (CPre g mm [.ref (ad g 21 0)]) (CI g mZ r0) 0 0 (gA g) := by
  refine Met.ofW (cc := cX6_undo) (maxL := 2) (ret := (some .int)) (by decide) rfl ?_
  intro p e s m args below meth c s₁ B hml hv
  obtain ⟨ha, hFx, hP0, hlo⟩ := hv
  have X : Cx g p s m args c meth RX6 cX6_undo := Cx_of hDW hFx hlo B
  have hx := X.1
  have hb := X.2.1
  have hr := B.returns
  have hlocks := X.2.2.2.2.2.2.2
  have hW : Wd g mm s s.heap [] := ⟨hP0, va_S.rf⟩
  rw [ha, lg_entry_eq]
  have hl := lv_entry ([.ref (ad g 21 0)] : List Value) (n := 2) (Nat.le_of_ble_eq_true rfl)
  generalize (lg_sl ([.ref (ad g 21 0)] : List Value) ++ List.replicate (2 - (lg_sl ([.ref (ad g 21 0)] : List Value)).length) Slot.unset).toArray = ls at hl ⊢
  have hl : lv_has ls 2 [(0, .ref (ad g 21 0))] := hl
  rw [← ha]
  show W p l e rm_X6_undo s m args below meth c s.heap [] 0 0 (MQ below (CI g mZ r0) args s 0 0 (gA g)) (F0 m 0 ls [])
  have P_30 : ∀ (n30 : Nat) (x1 : Int32) (mm : gM) (H : Heap) (locs : List Loc) (ls : Array Slot), Wd g mm s H locs → lv_has ls 2 [(0, .ref (ad g 21 0)), (1, .int x1)] → lX6_undo_30 n30 x1 mm = some (r0, mZ) → W p l e rm_X6_undo s m args below meth c H locs 0 0 (MQ below (CI g mZ r0) args s 0 0 (gA g)) (F0 m 30 ls []) := by
    intro n30
    induction n30 with
    | zero => intro x1 mm H locs ls hW hl hf; exact (no_some hf).elim
    | succ n30 ih_30 =>
      intro x1 mm H locs ls hW hl hf
      rw [lX6_undo_30_s] at hf
      refine lv_iload_n hx hb dX6_undo_30 rfl (lv_at hl 1 rfl) ?_
      refine lv_bipush (v := 80) hx hb dX6_undo_31 (by decide) ?_
      refine lv_icmp_ge (tgt := 62) hx hb dX6_undo_33 (by decide) (fun c10 => ?_) (fun c10 => ?_)
      · replace hf := ite_t hf c10
        refine lv_aload_n hx hb dX6_undo_62 rfl (lv_at hl 0 rfl) ?_
        refine gf_21_3 X hW (by decide) mw_950 dX6_undo_63 ?_
        obtain ⟨hf, hm⟩ := prinj hf
        replace hW := hW.same hm.symm
        exact e_i X hr hW (hf) dX6_undo_66
      · replace hf := ite_f hf c10
        refine lv_aload_n hx hb dX6_undo_36 rfl (lv_at hl 0 rfl) ?_
        refine gf_21_1 X hW (by decide) mw_948 dX6_undo_37 ?_
        refine lv_iload_n hx hb dX6_undo_40 rfl (lv_at hl 1 rfl) ?_
        refine lv_aload_n hx hb dX6_undo_41 rfl (lv_at hl 0 rfl) ?_
        refine gf_21_2 X hW (by decide) mw_949 dX6_undo_42 ?_
        refine lv_bipush (v := 80) hx hb dX6_undo_45 (by decide) ?_
        refine lv_aload_n hx hb dX6_undo_47 rfl (lv_at hl 0 rfl) ?_
        refine gf_21_3 X hW (by decide) mw_950 dX6_undo_48 ?_
        refine lv_imul hx hb dX6_undo_51 ?_
        refine lv_iload_n hx hb dX6_undo_52 rfl (lv_at hl 1 rfl) ?_
        refine lv_iadd hx hb dX6_undo_53 ?_
        obtain ⟨b7, hf⟩ := chk_ex hf
        refine r_iald X hW 23 0 (by decide) (by decide) rfl b7 dX6_undo_54 ?_
        obtain ⟨b8, hf⟩ := chk_ex hf
        obtain ⟨m9, ex, hf⟩ := wth_ex hf
        refine r_iast X hW 22 0 (by decide) (by decide) (fun _ => rfl) b8 dX6_undo_55 (fun H locs hW => ?_)
        replace hW := hW.same ex
        clear ex
        refine lv_iinc (v := x1 + 1) (lv' := [(1, .int (x1 + 1)), (0, .ref (ad g 21 0))]) hx hb dX6_undo_56 hl (k := 1) rfl rfl (by decide) rfl (fun ls hl => ?_)
        refine lv_goto (tgt := 30) hx hb dX6_undo_59 (by decide) ?_
        exact ih_30 _ _ _ _ _ hW (lv_sub hl [1, 0] rfl) hf
  unfold fX6_undo at hf
  refine lv_aload_n hx hb dX6_undo_0 rfl (lv_at hl 0 rfl) ?_
  refine lv_iconst (v := 0) hx hb dX6_undo_1 (by decide) ?_
  obtain ⟨m1, ex, hf⟩ := wth_ex hf
  refine pf_21_0 X hW (by decide) mw_947 dX6_undo_2 (fun H locs hW => ?_)
  replace hW := hW.same ex
  clear ex
  refine lv_aload_n hx hb dX6_undo_5 rfl (lv_at hl 0 rfl) ?_
  refine gf_21_3 X hW (by decide) mw_950 dX6_undo_6 ?_
  refine lv_if_ne (tgt := 18) hx hb dX6_undo_9 (by decide) (fun c6 => ?_) (fun c6 => ?_)
  · replace hf := ite_f hf c6
    refine lv_aload_n hx hb dX6_undo_18 rfl (lv_at hl 0 rfl) ?_
    refine lv_dup hx hb dX6_undo_19 rfl ?_
    refine gf_21_3 X hW (by decide) mw_950 dX6_undo_20 ?_
    refine lv_iconst (v := 1) hx hb dX6_undo_23 (by decide) ?_
    refine lv_isub hx hb dX6_undo_24 ?_
    obtain ⟨m2, ex, hf⟩ := wth_ex hf
    refine pf_21_3 X hW (by decide) mw_950 dX6_undo_25 (fun H locs hW => ?_)
    replace hW := hW.same ex
    clear ex
    refine lv_iconst (v := 0) hx hb dX6_undo_28 (by decide) ?_
    refine lv_istore_n (lv' := [(1, .int 0), (0, .ref (ad g 21 0))]) hx hb dX6_undo_29 rfl hl (by decide) rfl (fun ls hl => ?_)
    exact P_30 _ _ _ _ _ _ hW (lv_sub hl [1, 0] rfl) hf
  · replace hf := ite_t hf c6
    refine lv_aload_n hx hb dX6_undo_12 rfl (lv_at hl 0 rfl) ?_
    refine lv_iconst (v := 1) hx hb dX6_undo_13 (by decide) ?_
    obtain ⟨r4, m5, e3, hf⟩ := bn2_ex hf
    refine k_i X hW (k_V (As := [.int 1]) (rest := []) X hW hml hl.1 (c_X6_fails l g hDW  _ m1 _ _ e3) (r_recv X hW 21 0 (by decide) (by decide) rfl rfl) ⟨mw_1019, kw_X6_fails⟩ ⟨⟨rfl, rfl⟩, ko_X6_fails, ⟨Nat.le_of_ble_eq_true rfl, Nat.le_of_ble_eq_true rfl⟩⟩ rfl rfl (Nat.le_of_ble_eq_true rfl) dX6_undo_14 ⟨Nat.le_of_ble_eq_true rfl, Nat.le_of_ble_eq_true rfl⟩) (fun H locs hW => ?_)
    obtain ⟨hf, hm⟩ := prinj hf
    replace hW := hW.same hm.symm
    exact e_i X hr hW (hf) dX6_undo_17
set_option maxRecDepth 100000 in
set_option maxHeartbeats 4000000 in
theorem c_X6_isReadWell (l : Launch) (g : gG) (hDW : DW g) (x1 : Int32) (mm : gM) (r0 : Int32) (hf : fX6_isReadWell x1 mm = some r0) : Met l yX6_isReadWell (Cond.code yX6_isReadWell cX6_isReadWell 3 (some .boolean) :: ALLW) rm_X6_isReadWell (CPre g mm [.ref (ad g 21 0), .int x1]) (CI g mm r0) 0 0 (gA g) := by
  refine Met.ofW (cc := cX6_isReadWell) (maxL := 3) (ret := (some .boolean)) (by decide) rfl ?_
  intro p e s m args below meth c s₁ B hml hv
  obtain ⟨ha, hFx, hP0, hlo⟩ := hv
  have X : Cx g p s m args c meth RX6 cX6_isReadWell := Cx_of hDW hFx hlo B
  have hx := X.1
  have hb := X.2.1
  have hr := B.returns
  have hlocks := X.2.2.2.2.2.2.2
  have hW : Wd g mm s s.heap [] := ⟨hP0, va_S.rf⟩
  rw [ha, lg_entry_eq]
  have hl := lv_entry ([.ref (ad g 21 0), .int x1] : List Value) (n := 3) (Nat.le_of_ble_eq_true rfl)
  generalize (lg_sl ([.ref (ad g 21 0), .int x1] : List Value) ++ List.replicate (3 - (lg_sl ([.ref (ad g 21 0), .int x1] : List Value)).length) Slot.unset).toArray = ls at hl ⊢
  have hl : lv_has ls 3 [(0, .ref (ad g 21 0)), (1, .int x1)] := hl
  rw [← ha]
  show W p l e rm_X6_isReadWell s m args below meth c s.heap [] 0 0 (MQ below (CI g mm r0) args s 0 0 (gA g)) (F0 m 0 ls [])
  have P_53 : ∀ (H : Heap) (locs : List Loc) (ls : Array Slot), Wd g mm s H locs → lv_has ls 3 [] → jX6_isReadWell_53 mm = some r0 → W p l e rm_X6_isReadWell s m args below meth c H locs 0 0 (MQ below (CI g mm r0) args s 0 0 (gA g)) (F0 m 53 ls []) := by
    intro  H locs ls hW hl hf
    unfold jX6_isReadWell_53 at hf
    refine lv_iconst (v := 0) hx hb dX6_isReadWell_53 (by decide) ?_
    obtain ⟨b16, hf⟩ := chk_ex hf
    exact e_z X hr hW (bz_n b16) (someinj hf) dX6_isReadWell_54
  have P_46 : ∀ (s0 : Int32) (s1 : Int32) (H : Heap) (locs : List Loc) (ls : Array Slot), Wd g mm s H locs → lv_has ls 3 [] → jX6_isReadWell_46 mm s0 s1 = some r0 → W p l e rm_X6_isReadWell s m args below meth c H locs 0 0 (MQ below (CI g mm r0) args s 0 0 (gA g)) (F0 m 46 ls [.int s1, .int s0]) := by
    intro s0 s1 H locs ls hW hl hf
    unfold jX6_isReadWell_46 at hf
    refine lv_icmp_ne (tgt := 53) hx hb dX6_isReadWell_46 (by decide) (fun c18 => ?_) (fun c18 => ?_)
    · replace hf := ite_f hf c18
      exact P_53  _ _ _ hW (lv_sub hl [] rfl) hf
    · replace hf := ite_t hf c18
      refine lv_iconst (v := 1) hx hb dX6_isReadWell_49 (by decide) ?_
      refine lv_goto (tgt := 54) hx hb dX6_isReadWell_50 (by decide) ?_
      obtain ⟨b17, hf⟩ := chk_ex hf
      exact e_z X hr hW (bz_n b17) (someinj hf) dX6_isReadWell_54
  have P_15 : ∀ (x1 : Int32) (s0 : Int32) (H : Heap) (locs : List Loc) (ls : Array Slot), Wd g mm s H locs → lv_has ls 3 [(0, .ref (ad g 21 0)), (1, .int x1)] → jX6_isReadWell_15 mm x1 s0 = some r0 → W p l e rm_X6_isReadWell s m args below meth c H locs 0 0 (MQ below (CI g mm r0) args s 0 0 (gA g)) (F0 m 15 ls [.int s0]) := by
    intro x1 s0 H locs ls hW hl hf
    unfold jX6_isReadWell_15 at hf
    refine lv_istore_n (lv' := [(2, .int s0), (0, .ref (ad g 21 0)), (1, .int x1)]) hx hb dX6_isReadWell_15 rfl hl (by decide) rfl (fun ls hl => ?_)
    refine lv_aload_n hx hb dX6_isReadWell_16 rfl (lv_at hl 1 rfl) ?_
    refine lv_iload_n hx hb dX6_isReadWell_17 rfl (lv_at hl 2 rfl) ?_
    obtain ⟨r6, e5, hf⟩ := bnd_ex hf
    refine k_i X hW (k_V (As := [.int x1]) (rest := []) X hW hml hl.1 (c_X6_readOf l g hDW  _ mm _ e5) (r_recv X hW 21 0 (by decide) (by decide) rfl rfl) ⟨mw_1164, kw_X6_readOf⟩ ⟨⟨rfl, rfl⟩, ko_X6_readOf, ⟨Nat.le_of_ble_eq_true rfl, Nat.le_of_ble_eq_true rfl⟩⟩ rfl rfl (Nat.le_of_ble_eq_true rfl) dX6_isReadWell_18 ⟨Nat.le_of_ble_eq_true rfl, Nat.le_of_ble_eq_true rfl⟩) (fun H locs hW => ?_)
    refine lv_aload_n hx hb dX6_isReadWell_21 rfl (lv_at hl 1 rfl) ?_
    refine lv_iload_n hx hb dX6_isReadWell_22 rfl (lv_at hl 2 rfl) ?_
    refine lv_iconst (v := 0) hx hb dX6_isReadWell_23 (by decide) ?_
    obtain ⟨r9, e8, hf⟩ := bnd_ex hf
    refine k_i X hW (k_V (As := [.int x1, .int 0]) (rest := [.int r6]) X hW hml hl.1 (c_X6_of l g hDW  _ _ mm _ e8) (r_recv X hW 21 0 (by decide) (by decide) rfl rfl) ⟨mw_1027, kw_X6_of⟩ ⟨⟨rfl, rfl⟩, ko_X6_of, ⟨Nat.le_of_ble_eq_true rfl, Nat.le_of_ble_eq_true rfl⟩⟩ rfl rfl (Nat.le_of_ble_eq_true rfl) dX6_isReadWell_24 ⟨Nat.le_of_ble_eq_true rfl, Nat.le_of_ble_eq_true rfl⟩) (fun H locs hW => ?_)
    refine lv_icmp_ne (tgt := 53) hx hb dX6_isReadWell_27 (by decide) (fun c15 => ?_) (fun c15 => ?_)
    · replace hf := ite_f hf c15
      exact P_53  _ _ _ hW (lv_sub hl [] rfl) hf
    · replace hf := ite_t hf c15
      refine lv_iload_n hx hb dX6_isReadWell_30 rfl (lv_at hl 0 rfl) ?_
      refine lv_aload_n hx hb dX6_isReadWell_31 rfl (lv_at hl 1 rfl) ?_
      refine lv_iload_n hx hb dX6_isReadWell_32 rfl (lv_at hl 2 rfl) ?_
      refine lv_iconst (v := 1) hx hb dX6_isReadWell_33 (by decide) ?_
      obtain ⟨r12, e11, hf⟩ := bnd_ex hf
      refine k_i X hW (k_V (As := [.int x1, .int 1]) (rest := [.int s0]) X hW hml hl.1 (c_X6_of l g hDW  _ _ mm _ e11) (r_recv X hW 21 0 (by decide) (by decide) rfl rfl) ⟨mw_1027, kw_X6_of⟩ ⟨⟨rfl, rfl⟩, ko_X6_of, ⟨Nat.le_of_ble_eq_true rfl, Nat.le_of_ble_eq_true rfl⟩⟩ rfl rfl (Nat.le_of_ble_eq_true rfl) dX6_isReadWell_34 ⟨Nat.le_of_ble_eq_true rfl, Nat.le_of_ble_eq_true rfl⟩) (fun H locs hW => ?_)
      refine lv_iconst (v := 1) hx hb dX6_isReadWell_37 (by decide) ?_
      refine lv_icmp_ne (tgt := 45) hx hb dX6_isReadWell_38 (by decide) (fun c14 => ?_) (fun c14 => ?_)
      · replace hf := ite_f hf c14
        refine lv_iconst (v := 0) hx hb dX6_isReadWell_45 (by decide) ?_
        exact P_46 _ _ _ _ _ hW (lv_sub hl [] rfl) hf
      · replace hf := ite_t hf c14
        refine lv_iconst (v := 1) hx hb dX6_isReadWell_41 (by decide) ?_
        refine lv_goto (tgt := 46) hx hb dX6_isReadWell_42 (by decide) ?_
        exact P_46 _ _ _ _ _ hW (lv_sub hl [] rfl) hf
  unfold fX6_isReadWell at hf
  refine lv_aload_n hx hb dX6_isReadWell_0 rfl (lv_at hl 0 rfl) ?_
  refine lv_iload_n hx hb dX6_isReadWell_1 rfl (lv_at hl 1 rfl) ?_
  obtain ⟨r2, e1, hf⟩ := bnd_ex hf
  refine k_i X hW (k_V (As := [.int x1]) (rest := []) X hW hml hl.1 (c_X6_seenOf l g hDW  _ mm _ e1) (r_recv X hW 21 0 (by decide) (by decide) rfl rfl) ⟨mw_1168, kw_X6_seenOf⟩ ⟨⟨rfl, rfl⟩, ko_X6_seenOf, ⟨Nat.le_of_ble_eq_true rfl, Nat.le_of_ble_eq_true rfl⟩⟩ rfl rfl (Nat.le_of_ble_eq_true rfl) dX6_isReadWell_2 ⟨Nat.le_of_ble_eq_true rfl, Nat.le_of_ble_eq_true rfl⟩) (fun H locs hW => ?_)
  refine lv_bipush (v := 127) hx hb dX6_isReadWell_5 (by decide) ?_
  refine lv_icmp_le (tgt := 14) hx hb dX6_isReadWell_7 (by decide) (fun c4 => ?_) (fun c4 => ?_)
  · replace hf := ite_t hf c4
    refine lv_iconst (v := 0) hx hb dX6_isReadWell_14 (by decide) ?_
    exact P_15 _ _ _ _ _ hW (lv_sub hl [0, 1] rfl) hf
  · replace hf := ite_f hf c4
    refine lv_iconst (v := 1) hx hb dX6_isReadWell_10 (by decide) ?_
    refine lv_goto (tgt := 15) hx hb dX6_isReadWell_11 (by decide) ?_
    exact P_15 _ _ _ _ _ hW (lv_sub hl [0, 1] rfl) hf
set_option maxRecDepth 100000 in
set_option maxHeartbeats 4000000 in
theorem c_X6_tellsSlot (l : Launch) (g : gG) (hDW : DW g) (x1 : Int32) (x2 : Int32) (mm : gM) (r0 : Int32) (hf : fX6_tellsSlot x1 x2 mm = some r0) : Met l yX6_tellsSlot (Cond.code yX6_tellsSlot cX6_tellsSlot 3 (some .int) :: ALLW) rm_X6_tellsSlot (CPre g mm [.ref (ad g 21 0), .int x1, .int x2]) (CI g mm r0) 0 0 (gA g) := by
  refine Met.ofW (cc := cX6_tellsSlot) (maxL := 3) (ret := (some .int)) (by decide) rfl ?_
  intro p e s m args below meth c s₁ B hml hv
  obtain ⟨ha, hFx, hP0, hlo⟩ := hv
  have X : Cx g p s m args c meth RX6 cX6_tellsSlot := Cx_of hDW hFx hlo B
  have hx := X.1
  have hb := X.2.1
  have hr := B.returns
  have hlocks := X.2.2.2.2.2.2.2
  have hW : Wd g mm s s.heap [] := ⟨hP0, va_S.rf⟩
  rw [ha, lg_entry_eq]
  have hl := lv_entry ([.ref (ad g 21 0), .int x1, .int x2] : List Value) (n := 3) (Nat.le_of_ble_eq_true rfl)
  generalize (lg_sl ([.ref (ad g 21 0), .int x1, .int x2] : List Value) ++ List.replicate (3 - (lg_sl ([.ref (ad g 21 0), .int x1, .int x2] : List Value)).length) Slot.unset).toArray = ls at hl ⊢
  have hl : lv_has ls 3 [(0, .ref (ad g 21 0)), (1, .int x1), (2, .int x2)] := hl
  rw [← ha]
  show W p l e rm_X6_tellsSlot s m args below meth c s.heap [] 0 0 (MQ below (CI g mm r0) args s 0 0 (gA g)) (F0 m 0 ls [])
  unfold fX6_tellsSlot at hf
  refine lv_iload_n hx hb dX6_tellsSlot_0 rfl (lv_at hl 2 rfl) ?_
  by_cases c4 : x2 = 4
  · replace hf := ite_t hf c4
    refine lv_tableIn (off := 39) (tgt := 40) hx hb dX6_tellsSlot_1 (by rw [c4]; decide) (by rw [c4]; decide) (by rw [c4]; rfl) (by decide) ?_
    refine lv_aload_n hx hb dX6_tellsSlot_40 rfl (lv_at hl 0 rfl) ?_
    refine lv_iload_n hx hb dX6_tellsSlot_41 rfl (lv_at hl 1 rfl) ?_
    obtain ⟨r2, e1, hf⟩ := bnd_ex hf
    refine k_i X hW (k_V (As := [.int x1]) (rest := []) X hW hml hl.1 (c_X6_works l g hDW  _ mm _ e1) (r_recv X hW 21 0 (by decide) (by decide) rfl rfl) ⟨mw_1058, kw_X6_works⟩ ⟨⟨rfl, rfl⟩, ko_X6_works, ⟨Nat.le_of_ble_eq_true rfl, Nat.le_of_ble_eq_true rfl⟩⟩ rfl rfl (Nat.le_of_ble_eq_true rfl) dX6_tellsSlot_42 ⟨Nat.le_of_ble_eq_true rfl, Nat.le_of_ble_eq_true rfl⟩) (fun H locs hW => ?_)
    exact e_i X hr hW (someinj hf) dX6_tellsSlot_45
  · replace hf := ite_f hf c4
    by_cases c8 : x2 = 5
    · replace hf := ite_t hf c8
      refine lv_tableIn (off := 45) (tgt := 46) hx hb dX6_tellsSlot_1 (by rw [c8]; decide) (by rw [c8]; decide) (by rw [c8]; rfl) (by decide) ?_
      refine lv_aload_n hx hb dX6_tellsSlot_46 rfl (lv_at hl 0 rfl) ?_
      refine lv_iload_n hx hb dX6_tellsSlot_47 rfl (lv_at hl 1 rfl) ?_
      obtain ⟨r6, e5, hf⟩ := bnd_ex hf
      refine k_i X hW (k_V (As := [.int x1]) (rest := []) X hW hml hl.1 (c_X6_light l g hDW  _ mm _ e5) (r_recv X hW 21 0 (by decide) (by decide) rfl rfl) ⟨mw_1113, kw_X6_light⟩ ⟨⟨rfl, rfl⟩, ko_X6_light, ⟨Nat.le_of_ble_eq_true rfl, Nat.le_of_ble_eq_true rfl⟩⟩ rfl rfl (Nat.le_of_ble_eq_true rfl) dX6_tellsSlot_48 ⟨Nat.le_of_ble_eq_true rfl, Nat.le_of_ble_eq_true rfl⟩) (fun H locs hW => ?_)
      exact e_i X hr hW (someinj hf) dX6_tellsSlot_51
    · replace hf := ite_f hf c8
      by_cases c12 : x2 = 6
      · replace hf := ite_t hf c12
        refine lv_tableIn (off := 51) (tgt := 52) hx hb dX6_tellsSlot_1 (by rw [c12]; decide) (by rw [c12]; decide) (by rw [c12]; rfl) (by decide) ?_
        refine lv_aload_n hx hb dX6_tellsSlot_52 rfl (lv_at hl 0 rfl) ?_
        refine lv_iload_n hx hb dX6_tellsSlot_53 rfl (lv_at hl 1 rfl) ?_
        obtain ⟨r10, e9, hf⟩ := bnd_ex hf
        refine k_i X hW (k_V (As := [.int x1]) (rest := []) X hW hml hl.1 (c_X6_seenOf l g hDW  _ mm _ e9) (r_recv X hW 21 0 (by decide) (by decide) rfl rfl) ⟨mw_1168, kw_X6_seenOf⟩ ⟨⟨rfl, rfl⟩, ko_X6_seenOf, ⟨Nat.le_of_ble_eq_true rfl, Nat.le_of_ble_eq_true rfl⟩⟩ rfl rfl (Nat.le_of_ble_eq_true rfl) dX6_tellsSlot_54 ⟨Nat.le_of_ble_eq_true rfl, Nat.le_of_ble_eq_true rfl⟩) (fun H locs hW => ?_)
        exact e_i X hr hW (someinj hf) dX6_tellsSlot_57
      · replace hf := ite_f hf c12
        by_cases c16 : x2 = 7
        · replace hf := ite_t hf c16
          refine lv_tableIn (off := 57) (tgt := 58) hx hb dX6_tellsSlot_1 (by rw [c16]; decide) (by rw [c16]; decide) (by rw [c16]; rfl) (by decide) ?_
          refine lv_aload_n hx hb dX6_tellsSlot_58 rfl (lv_at hl 0 rfl) ?_
          refine lv_iload_n hx hb dX6_tellsSlot_59 rfl (lv_at hl 1 rfl) ?_
          obtain ⟨r14, e13, hf⟩ := bnd_ex hf
          refine k_i X hW (k_V (As := [.int x1]) (rest := []) X hW hml hl.1 (c_X6_readOf l g hDW  _ mm _ e13) (r_recv X hW 21 0 (by decide) (by decide) rfl rfl) ⟨mw_1164, kw_X6_readOf⟩ ⟨⟨rfl, rfl⟩, ko_X6_readOf, ⟨Nat.le_of_ble_eq_true rfl, Nat.le_of_ble_eq_true rfl⟩⟩ rfl rfl (Nat.le_of_ble_eq_true rfl) dX6_tellsSlot_60 ⟨Nat.le_of_ble_eq_true rfl, Nat.le_of_ble_eq_true rfl⟩) (fun H locs hW => ?_)
          exact e_i X hr hW (someinj hf) dX6_tellsSlot_63
        · replace hf := ite_f hf c16
          by_cases c21 : x2 = 8
          · replace hf := ite_t hf c21
            refine lv_tableIn (off := 63) (tgt := 64) hx hb dX6_tellsSlot_1 (by rw [c21]; decide) (by rw [c21]; decide) (by rw [c21]; rfl) (by decide) ?_
            refine lv_aload_n hx hb dX6_tellsSlot_64 rfl (lv_at hl 0 rfl) ?_
            refine lv_iload_n hx hb dX6_tellsSlot_65 rfl (lv_at hl 1 rfl) ?_
            obtain ⟨r18, e17, hf⟩ := bnd_ex hf
            refine k_i X hW (k_V (As := [.int x1]) (rest := []) X hW hml hl.1 (c_X6_isReadWell l g hDW  _ mm _ e17) (r_recv X hW 21 0 (by decide) (by decide) rfl rfl) ⟨mw_1199, kw_X6_isReadWell⟩ ⟨⟨rfl, rfl⟩, ko_X6_isReadWell, ⟨Nat.le_of_ble_eq_true rfl, Nat.le_of_ble_eq_true rfl⟩⟩ rfl rfl (Nat.le_of_ble_eq_true rfl) dX6_tellsSlot_66 ⟨Nat.le_of_ble_eq_true rfl, Nat.le_of_ble_eq_true rfl⟩) (fun H locs hW => ?_)
            refine lv_if_eq (tgt := 76) hx hb dX6_tellsSlot_69 (by decide) (fun c20 => ?_) (fun c20 => ?_)
            · replace hf := ite_t hf c20
              refine lv_iconst (v := 0) hx hb dX6_tellsSlot_76 (by decide) ?_
              exact e_i X hr hW (someinj hf) dX6_tellsSlot_77
            · replace hf := ite_f hf c20
              refine lv_iconst (v := 1) hx hb dX6_tellsSlot_72 (by decide) ?_
              refine lv_goto (tgt := 77) hx hb dX6_tellsSlot_73 (by decide) ?_
              exact e_i X hr hW (someinj hf) dX6_tellsSlot_77
          · replace hf := ite_f hf c21
            by_cases c25 : x2 = 9
            · replace hf := ite_t hf c25
              refine lv_tableIn (off := 77) (tgt := 78) hx hb dX6_tellsSlot_1 (by rw [c25]; decide) (by rw [c25]; decide) (by rw [c25]; rfl) (by decide) ?_
              refine lv_aload_n hx hb dX6_tellsSlot_78 rfl (lv_at hl 0 rfl) ?_
              refine lv_iload_n hx hb dX6_tellsSlot_79 rfl (lv_at hl 1 rfl) ?_
              obtain ⟨r23, e22, hf⟩ := bnd_ex hf
              refine k_i X hW (k_V (As := [.int x1]) (rest := []) X hW hml hl.1 (c_X6_meanOf l g hDW  _ mm _ e22) (r_recv X hW 21 0 (by decide) (by decide) rfl rfl) ⟨mw_1203, kw_X6_meanOf⟩ ⟨⟨rfl, rfl⟩, ko_X6_meanOf, ⟨Nat.le_of_ble_eq_true rfl, Nat.le_of_ble_eq_true rfl⟩⟩ rfl rfl (Nat.le_of_ble_eq_true rfl) dX6_tellsSlot_80 ⟨Nat.le_of_ble_eq_true rfl, Nat.le_of_ble_eq_true rfl⟩) (fun H locs hW => ?_)
              exact e_i X hr hW (someinj hf) dX6_tellsSlot_83
            · replace hf := ite_f hf c25
              refine lv_tableOut (tgt := 84) hx hb dX6_tellsSlot_1 (tb_out4_6 c4 c8 c12 c16 c21 c25) (by decide) ?_
              refine lv_aload_n hx hb dX6_tellsSlot_84 rfl (lv_at hl 0 rfl) ?_
              refine lv_iload_n hx hb dX6_tellsSlot_85 rfl (lv_at hl 1 rfl) ?_
              refine lv_iload_n hx hb dX6_tellsSlot_86 rfl (lv_at hl 2 rfl) ?_
              obtain ⟨r27, e26, hf⟩ := bnd_ex hf
              refine k_i X hW (k_V (As := [.int x1, .int x2]) (rest := []) X hW hml hl.1 (c_X6_of l g hDW  _ _ mm _ e26) (r_recv X hW 21 0 (by decide) (by decide) rfl rfl) ⟨mw_1027, kw_X6_of⟩ ⟨⟨rfl, rfl⟩, ko_X6_of, ⟨Nat.le_of_ble_eq_true rfl, Nat.le_of_ble_eq_true rfl⟩⟩ rfl rfl (Nat.le_of_ble_eq_true rfl) dX6_tellsSlot_87 ⟨Nat.le_of_ble_eq_true rfl, Nat.le_of_ble_eq_true rfl⟩) (fun H locs hW => ?_)
              exact e_i X hr hW (someinj hf) dX6_tellsSlot_90
set_option maxRecDepth 100000 in
set_option maxHeartbeats 4000000 in
theorem c_X6_slotOf (l : Launch) (g : gG) (hDW : DW g) (x1 : Int32) (x2 : Int32) (mm : gM) (r0 : Int32) (mZ : gM) (hf : fX6_slotOf x1 x2 mm = some (r0, mZ)) : Met l yX6_slotOf (Cond.code yX6_slotOf cX6_slotOf 3 (some .int) :: ALLW) rm_X6_slotOf (CPre g mm [.ref (ad g 21 0), .int x1, .int x2]) (CI g mZ r0) 0 0 (gA g) := by
  refine Met.ofW (cc := cX6_slotOf) (maxL := 3) (ret := (some .int)) (by decide) rfl ?_
  intro p e s m args below meth c s₁ B hml hv
  obtain ⟨ha, hFx, hP0, hlo⟩ := hv
  have X : Cx g p s m args c meth RX6 cX6_slotOf := Cx_of hDW hFx hlo B
  have hx := X.1
  have hb := X.2.1
  have hr := B.returns
  have hlocks := X.2.2.2.2.2.2.2
  have hW : Wd g mm s s.heap [] := ⟨hP0, va_S.rf⟩
  rw [ha, lg_entry_eq]
  have hl := lv_entry ([.ref (ad g 21 0), .int x1, .int x2] : List Value) (n := 3) (Nat.le_of_ble_eq_true rfl)
  generalize (lg_sl ([.ref (ad g 21 0), .int x1, .int x2] : List Value) ++ List.replicate (3 - (lg_sl ([.ref (ad g 21 0), .int x1, .int x2] : List Value)).length) Slot.unset).toArray = ls at hl ⊢
  have hl : lv_has ls 3 [(0, .ref (ad g 21 0)), (1, .int x1), (2, .int x2)] := hl
  rw [← ha]
  show W p l e rm_X6_slotOf s m args below meth c s.heap [] 0 0 (MQ below (CI g mZ r0) args s 0 0 (gA g)) (F0 m 0 ls [])
  unfold fX6_slotOf at hf
  refine lv_aload_n hx hb dX6_slotOf_0 rfl (lv_at hl 0 rfl) ?_
  refine lv_iconst (v := 0) hx hb dX6_slotOf_1 (by decide) ?_
  obtain ⟨m1, ex, hf⟩ := wth_ex hf
  refine pf_21_0 X hW (by decide) mw_947 dX6_slotOf_2 (fun H locs hW => ?_)
  replace hW := hW.same ex
  clear ex
  refine lv_iload_n hx hb dX6_slotOf_5 rfl (lv_at hl 1 rfl) ?_
  obtain ⟨r3, e2, hf⟩ := bnd_ex hf
  refine k_i X hW (k_S (As := [.int x1]) (rest := []) X hW hml hl.1 (c_X6_isSlot l g hDW  _ m1 _ e2) ⟨mw_1013, kw_X6_isSlot⟩ ⟨⟨rfl, rfl⟩, ko_X6_isSlot, ⟨Nat.le_of_ble_eq_true rfl, Nat.le_of_ble_eq_true rfl⟩⟩ rfl rfl (Nat.le_of_ble_eq_true rfl) dX6_slotOf_6 ⟨Nat.le_of_ble_eq_true rfl, Nat.le_of_ble_eq_true rfl⟩) (fun H locs hW => ?_)
  refine lv_if_ne (tgt := 18) hx hb dX6_slotOf_9 (by decide) (fun c21 => ?_) (fun c21 => ?_)
  · replace hf := ite_f hf c21
    refine lv_aload_n hx hb dX6_slotOf_18 rfl (lv_at hl 0 rfl) ?_
    obtain ⟨m7, e5, hf⟩ := bnd_ex hf
    refine k_v X hW (k_V (As := []) (rest := []) X hW hml hl.1 (c_X6_views l g hDW   m1 _ e5) (r_recv X hW 21 0 (by decide) (by decide) rfl rfl) ⟨mw_1160, kw_X6_views⟩ ⟨⟨rfl, rfl⟩, ko_X6_views, ⟨Nat.le_of_ble_eq_true rfl, Nat.le_of_ble_eq_true rfl⟩⟩ rfl rfl (Nat.le_of_ble_eq_true rfl) dX6_slotOf_19 ⟨Nat.le_of_ble_eq_true rfl, Nat.le_of_ble_eq_true rfl⟩) (fun H locs hW => ?_)
    refine lv_iload_n hx hb dX6_slotOf_22 rfl (lv_at hl 2 rfl) ?_
    refine lv_iconst (v := 0) hx hb dX6_slotOf_23 (by decide) ?_
    refine lv_bipush (v := 9) hx hb dX6_slotOf_24 (by decide) ?_
    obtain ⟨r9, e8, hf⟩ := bnd_ex hf
    refine k_i X hW (k_S (As := [.int x2, .int 0, .int 9]) (rest := []) X hW hml hl.1 (c_X6_in l g hDW  _ _ _ m7 _ e8) ⟨mw_1016, kw_X6_in⟩ ⟨⟨rfl, rfl⟩, ko_X6_in, ⟨Nat.le_of_ble_eq_true rfl, Nat.le_of_ble_eq_true rfl⟩⟩ rfl rfl (Nat.le_of_ble_eq_true rfl) dX6_slotOf_26 ⟨Nat.le_of_ble_eq_true rfl, Nat.le_of_ble_eq_true rfl⟩) (fun H locs hW => ?_)
    refine lv_if_eq (tgt := 41) hx hb dX6_slotOf_29 (by decide) (fun c17 => ?_) (fun c17 => ?_)
    · replace hf := ite_t hf c17
      refine lv_aload_n hx hb dX6_slotOf_41 rfl (lv_at hl 0 rfl) ?_
      refine lv_iconst (v := 2) hx hb dX6_slotOf_42 (by decide) ?_
      obtain ⟨r12, m13, e11, hf⟩ := bn2_ex hf
      refine k_i X hW (k_V (As := [.int 2]) (rest := []) X hW hml hl.1 (c_X6_fails l g hDW  _ m7 _ _ e11) (r_recv X hW 21 0 (by decide) (by decide) rfl rfl) ⟨mw_1019, kw_X6_fails⟩ ⟨⟨rfl, rfl⟩, ko_X6_fails, ⟨Nat.le_of_ble_eq_true rfl, Nat.le_of_ble_eq_true rfl⟩⟩ rfl rfl (Nat.le_of_ble_eq_true rfl) dX6_slotOf_43 ⟨Nat.le_of_ble_eq_true rfl, Nat.le_of_ble_eq_true rfl⟩) (fun H locs hW => ?_)
      obtain ⟨hf, hm⟩ := prinj hf
      replace hW := hW.same hm.symm
      exact e_i X hr hW (hf) dX6_slotOf_46
    · replace hf := ite_f hf c17
      refine lv_aload_n hx hb dX6_slotOf_32 rfl (lv_at hl 0 rfl) ?_
      refine lv_iload_n hx hb dX6_slotOf_33 rfl (lv_at hl 1 rfl) ?_
      refine lv_iload_n hx hb dX6_slotOf_34 rfl (lv_at hl 2 rfl) ?_
      obtain ⟨r15, e14, hf⟩ := bnd_ex hf
      refine k_i X hW (k_V (As := [.int x1, .int x2]) (rest := []) X hW hml hl.1 (c_X6_tellsSlot l g hDW  _ _ m7 _ e14) (r_recv X hW 21 0 (by decide) (by decide) rfl rfl) ⟨mw_1195, kw_X6_tellsSlot⟩ ⟨⟨rfl, rfl⟩, ko_X6_tellsSlot, ⟨Nat.le_of_ble_eq_true rfl, Nat.le_of_ble_eq_true rfl⟩⟩ rfl rfl (Nat.le_of_ble_eq_true rfl) dX6_slotOf_35 ⟨Nat.le_of_ble_eq_true rfl, Nat.le_of_ble_eq_true rfl⟩) (fun H locs hW => ?_)
      refine lv_goto (tgt := 46) hx hb dX6_slotOf_38 (by decide) ?_
      obtain ⟨hf, hm⟩ := prinj hf
      replace hW := hW.same hm.symm
      exact e_i X hr hW (hf) dX6_slotOf_46
  · replace hf := ite_t hf c21
    refine lv_aload_n hx hb dX6_slotOf_12 rfl (lv_at hl 0 rfl) ?_
    refine lv_iconst (v := 1) hx hb dX6_slotOf_13 (by decide) ?_
    obtain ⟨r19, m20, e18, hf⟩ := bn2_ex hf
    refine k_i X hW (k_V (As := [.int 1]) (rest := []) X hW hml hl.1 (c_X6_fails l g hDW  _ m1 _ _ e18) (r_recv X hW 21 0 (by decide) (by decide) rfl rfl) ⟨mw_1019, kw_X6_fails⟩ ⟨⟨rfl, rfl⟩, ko_X6_fails, ⟨Nat.le_of_ble_eq_true rfl, Nat.le_of_ble_eq_true rfl⟩⟩ rfl rfl (Nat.le_of_ble_eq_true rfl) dX6_slotOf_14 ⟨Nat.le_of_ble_eq_true rfl, Nat.le_of_ble_eq_true rfl⟩) (fun H locs hW => ?_)
    obtain ⟨hf, hm⟩ := prinj hf
    replace hW := hW.same hm.symm
    exact e_i X hr hW (hf) dX6_slotOf_17
set_option maxRecDepth 100000 in
set_option maxHeartbeats 4000000 in
theorem c_X6_tellsSegment (l : Launch) (g : gG) (hDW : DW g) (x1 : Int32) (x2 : Int32) (x3 : Int32) (mm : gM) (r0 : Int32) (hf : fX6_tellsSegment x1 x2 x3 mm = some r0) : Met l yX6_tellsSegment (Cond.code yX6_tellsSegment cX6_tellsSegment 5 (some .int) :: ALLW) rm_X6_tellsSegment (CPre g mm [.ref (ad g 21 0), .int x1, .int x2, .int x3]) (CI g mm r0) 0 0 (gA g) := by
  refine Met.ofW (cc := cX6_tellsSegment) (maxL := 5) (ret := (some .int)) (by decide) rfl ?_
  intro p e s m args below meth c s₁ B hml hv
  obtain ⟨ha, hFx, hP0, hlo⟩ := hv
  have X : Cx g p s m args c meth RX6 cX6_tellsSegment := Cx_of hDW hFx hlo B
  have hx := X.1
  have hb := X.2.1
  have hr := B.returns
  have hlocks := X.2.2.2.2.2.2.2
  have hW : Wd g mm s s.heap [] := ⟨hP0, va_S.rf⟩
  rw [ha, lg_entry_eq]
  have hl := lv_entry ([.ref (ad g 21 0), .int x1, .int x2, .int x3] : List Value) (n := 5) (Nat.le_of_ble_eq_true rfl)
  generalize (lg_sl ([.ref (ad g 21 0), .int x1, .int x2, .int x3] : List Value) ++ List.replicate (5 - (lg_sl ([.ref (ad g 21 0), .int x1, .int x2, .int x3] : List Value)).length) Slot.unset).toArray = ls at hl ⊢
  have hl : lv_has ls 5 [(0, .ref (ad g 21 0)), (1, .int x1), (2, .int x2), (3, .int x3)] := hl
  rw [← ha]
  show W p l e rm_X6_tellsSegment s m args below meth c s.heap [] 0 0 (MQ below (CI g mm r0) args s 0 0 (gA g)) (F0 m 0 ls [])
  unfold fX6_tellsSegment at hf
  refine lv_bipush (v := 8) hx hb dX6_tellsSegment_0 (by decide) ?_
  refine lv_iload_n hx hb dX6_tellsSegment_2 rfl (lv_at hl 1 rfl) ?_
  refine lv_imul hx hb dX6_tellsSegment_3 ?_
  refine lv_iload_n hx hb dX6_tellsSegment_4 rfl (lv_at hl 2 rfl) ?_
  refine lv_iadd hx hb dX6_tellsSegment_5 ?_
  refine lv_istore (lv' := [(4, .int ((8 * x1) + x2)), (0, .ref (ad g 21 0)), (1, .int x1), (2, .int x2), (3, .int x3)]) hx hb dX6_tellsSegment_6 hl (by decide) rfl (fun ls hl => ?_)
  refine lv_iload_n hx hb dX6_tellsSegment_8 rfl (lv_at hl 4 rfl) ?_
  refine lv_if_ne (tgt := 25) hx hb dX6_tellsSegment_9 (by decide) (fun c9 => ?_) (fun c9 => ?_)
  · replace hf := ite_f hf c9
    refine lv_iload_n hx hb dX6_tellsSegment_25 rfl (lv_at hl 4 rfl) ?_
    refine lv_iconst (v := 1) hx hb dX6_tellsSegment_26 (by decide) ?_
    refine lv_icmp_ne (tgt := 39) hx hb dX6_tellsSegment_27 (by decide) (fun c7 => ?_) (fun c7 => ?_)
    · replace hf := ite_f hf c7
      refine lv_iload_n hx hb dX6_tellsSegment_39 rfl (lv_at hl 4 rfl) ?_
      refine lv_iconst (v := 2) hx hb dX6_tellsSegment_40 (by decide) ?_
      refine lv_icmp_ne (tgt := 54) hx hb dX6_tellsSegment_41 (by decide) (fun c3 => ?_) (fun c3 => ?_)
      · replace hf := ite_f hf c3
        refine lv_aload_n hx hb dX6_tellsSegment_54 rfl (lv_at hl 1 rfl) ?_
        refine gf_21_16 X hW (by decide) mw_963 dX6_tellsSegment_55 ?_
        refine lv_iload hx hb dX6_tellsSegment_58 (lv_at hl 0 rfl) ?_
        obtain ⟨b1, hf⟩ := chk_ex hf
        refine r_iald X hW 32 0 (by decide) (by decide) rfl b1 dX6_tellsSegment_60 ?_
        exact e_i X hr hW (someinj hf) dX6_tellsSegment_61
      · replace hf := ite_t hf c3
        refine lv_aload_n hx hb dX6_tellsSegment_44 rfl (lv_at hl 1 rfl) ?_
        refine gf_21_15 X hW (by decide) mw_962 dX6_tellsSegment_45 ?_
        refine lv_iload hx hb dX6_tellsSegment_48 (lv_at hl 0 rfl) ?_
        obtain ⟨b2, hf⟩ := chk_ex hf
        refine r_iald X hW 31 0 (by decide) (by decide) rfl b2 dX6_tellsSegment_50 ?_
        refine lv_goto (tgt := 61) hx hb dX6_tellsSegment_51 (by decide) ?_
        exact e_i X hr hW (someinj hf) dX6_tellsSegment_61
    · replace hf := ite_t hf c7
      refine lv_aload_n hx hb dX6_tellsSegment_30 rfl (lv_at hl 1 rfl) ?_
      refine lv_iload_n hx hb dX6_tellsSegment_31 rfl (lv_at hl 2 rfl) ?_
      refine lv_iload_n hx hb dX6_tellsSegment_32 rfl (lv_at hl 3 rfl) ?_
      obtain ⟨r5, e4, hf⟩ := bnd_ex hf
      refine k_i X hW (k_V (As := [.int x1, .int x2]) (rest := []) X hW hml hl.1 (c_X6_brightness l g hDW  _ _ mm _ e4) (r_recv X hW 21 0 (by decide) (by decide) rfl rfl) ⟨mw_1172, kw_X6_brightness⟩ ⟨⟨rfl, rfl⟩, ko_X6_brightness, ⟨Nat.le_of_ble_eq_true rfl, Nat.le_of_ble_eq_true rfl⟩⟩ rfl rfl (Nat.le_of_ble_eq_true rfl) dX6_tellsSegment_33 ⟨Nat.le_of_ble_eq_true rfl, Nat.le_of_ble_eq_true rfl⟩) (fun H locs hW => ?_)
      refine lv_goto (tgt := 61) hx hb dX6_tellsSegment_36 (by decide) ?_
      exact e_i X hr hW (someinj hf) dX6_tellsSegment_61
  · replace hf := ite_t hf c9
    refine lv_aload_n hx hb dX6_tellsSegment_12 rfl (lv_at hl 1 rfl) ?_
    refine gf_21_1 X hW (by decide) mw_948 dX6_tellsSegment_13 ?_
    refine lv_bipush (v := 32) hx hb dX6_tellsSegment_16 (by decide) ?_
    refine lv_iload hx hb dX6_tellsSegment_18 (lv_at hl 0 rfl) ?_
    refine lv_iadd hx hb dX6_tellsSegment_20 ?_
    obtain ⟨b8, hf⟩ := chk_ex hf
    refine r_iald X hW 22 0 (by decide) (by decide) rfl b8 dX6_tellsSegment_21 ?_
    refine lv_goto (tgt := 61) hx hb dX6_tellsSegment_22 (by decide) ?_
    exact e_i X hr hW (someinj hf) dX6_tellsSegment_61
set_option maxRecDepth 100000 in
set_option maxHeartbeats 4000000 in
theorem c_X6_segmentOf (l : Launch) (g : gG) (hDW : DW g) (x1 : Int32) (x2 : Int32) (x3 : Int32) (mm : gM) (r0 : Int32) (mZ : gM) (hf : fX6_segmentOf x1 x2 x3 mm = some (r0, mZ)) : Met l yX6_segmentOf (Cond.code yX6_segmentOf cX6_segmentOf 4 (some .int) :: ALLW) rm_X6_segmentOf (CPre g mm [.ref (ad g 21 0), .int x1, .int x2, .int x3]) (CI g mZ r0) 0 0 (gA g) := by
  refine Met.ofW (cc := cX6_segmentOf) (maxL := 4) (ret := (some .int)) (by decide) rfl ?_
  intro p e s m args below meth c s₁ B hml hv
  obtain ⟨ha, hFx, hP0, hlo⟩ := hv
  have X : Cx g p s m args c meth RX6 cX6_segmentOf := Cx_of hDW hFx hlo B
  have hx := X.1
  have hb := X.2.1
  have hr := B.returns
  have hlocks := X.2.2.2.2.2.2.2
  have hW : Wd g mm s s.heap [] := ⟨hP0, va_S.rf⟩
  rw [ha, lg_entry_eq]
  have hl := lv_entry ([.ref (ad g 21 0), .int x1, .int x2, .int x3] : List Value) (n := 4) (Nat.le_of_ble_eq_true rfl)
  generalize (lg_sl ([.ref (ad g 21 0), .int x1, .int x2, .int x3] : List Value) ++ List.replicate (4 - (lg_sl ([.ref (ad g 21 0), .int x1, .int x2, .int x3] : List Value)).length) Slot.unset).toArray = ls at hl ⊢
  have hl : lv_has ls 4 [(0, .ref (ad g 21 0)), (1, .int x1), (2, .int x2), (3, .int x3)] := hl
  rw [← ha]
  show W p l e rm_X6_segmentOf s m args below meth c s.heap [] 0 0 (MQ below (CI g mZ r0) args s 0 0 (gA g)) (F0 m 0 ls [])
  have P_19 : ∀ (mm : gM) (H : Heap) (locs : List Loc) (ls : Array Slot), Wd g mm s H locs → lv_has ls 4 [(0, .ref (ad g 21 0))] → jX6_segmentOf_19 mm = some (r0, mZ) → W p l e rm_X6_segmentOf s m args below meth c H locs 0 0 (MQ below (CI g mZ r0) args s 0 0 (gA g)) (F0 m 19 ls []) := by
    intro mm H locs ls hW hl hf
    unfold jX6_segmentOf_19 at hf
    refine lv_aload_n hx hb dX6_segmentOf_19 rfl (lv_at hl 0 rfl) ?_
    refine lv_iconst (v := 1) hx hb dX6_segmentOf_20 (by decide) ?_
    obtain ⟨r24, m25, e23, hf⟩ := bn2_ex hf
    refine k_i X hW (k_V (As := [.int 1]) (rest := []) X hW hml hl.1 (c_X6_fails l g hDW  _ mm _ _ e23) (r_recv X hW 21 0 (by decide) (by decide) rfl rfl) ⟨mw_1019, kw_X6_fails⟩ ⟨⟨rfl, rfl⟩, ko_X6_fails, ⟨Nat.le_of_ble_eq_true rfl, Nat.le_of_ble_eq_true rfl⟩⟩ rfl rfl (Nat.le_of_ble_eq_true rfl) dX6_segmentOf_21 ⟨Nat.le_of_ble_eq_true rfl, Nat.le_of_ble_eq_true rfl⟩) (fun H locs hW => ?_)
    obtain ⟨hf, hm⟩ := prinj hf
    replace hW := hW.same hm.symm
    exact e_i X hr hW (hf) dX6_segmentOf_24
  unfold fX6_segmentOf at hf
  refine lv_aload_n hx hb dX6_segmentOf_0 rfl (lv_at hl 0 rfl) ?_
  refine lv_iconst (v := 0) hx hb dX6_segmentOf_1 (by decide) ?_
  obtain ⟨m1, ex, hf⟩ := wth_ex hf
  refine pf_21_0 X hW (by decide) mw_947 dX6_segmentOf_2 (fun H locs hW => ?_)
  replace hW := hW.same ex
  clear ex
  refine lv_iload_n hx hb dX6_segmentOf_5 rfl (lv_at hl 1 rfl) ?_
  obtain ⟨r3, e2, hf⟩ := bnd_ex hf
  refine k_i X hW (k_S (As := [.int x1]) (rest := []) X hW hml hl.1 (c_X6_isSlot l g hDW  _ m1 _ e2) ⟨mw_1013, kw_X6_isSlot⟩ ⟨⟨rfl, rfl⟩, ko_X6_isSlot, ⟨Nat.le_of_ble_eq_true rfl, Nat.le_of_ble_eq_true rfl⟩⟩ rfl rfl (Nat.le_of_ble_eq_true rfl) dX6_segmentOf_6 ⟨Nat.le_of_ble_eq_true rfl, Nat.le_of_ble_eq_true rfl⟩) (fun H locs hW => ?_)
  refine lv_if_eq (tgt := 19) hx hb dX6_segmentOf_9 (by decide) (fun c22 => ?_) (fun c22 => ?_)
  · replace hf := ite_t hf c22
    exact P_19 _ _ _ _ hW (lv_sub hl [0] rfl) hf
  · replace hf := ite_f hf c22
    refine lv_iload_n hx hb dX6_segmentOf_12 rfl (lv_at hl 2 rfl) ?_
    obtain ⟨r6, e5, hf⟩ := bnd_ex hf
    refine k_i X hW (k_S (As := [.int x2]) (rest := []) X hW hml hl.1 (c_X6_isSegment l g hDW  _ m1 _ e5) ⟨mw_1039, kw_X6_isSegment⟩ ⟨⟨rfl, rfl⟩, ko_X6_isSegment, ⟨Nat.le_of_ble_eq_true rfl, Nat.le_of_ble_eq_true rfl⟩⟩ rfl rfl (Nat.le_of_ble_eq_true rfl) dX6_segmentOf_13 ⟨Nat.le_of_ble_eq_true rfl, Nat.le_of_ble_eq_true rfl⟩) (fun H locs hW => ?_)
    refine lv_if_ne (tgt := 25) hx hb dX6_segmentOf_16 (by decide) (fun c21 => ?_) (fun c21 => ?_)
    · replace hf := ite_f hf c21
      refine lv_aload_n hx hb dX6_segmentOf_25 rfl (lv_at hl 0 rfl) ?_
      obtain ⟨m10, e8, hf⟩ := bnd_ex hf
      refine k_v X hW (k_V (As := []) (rest := []) X hW hml hl.1 (c_X6_views l g hDW   m1 _ e8) (r_recv X hW 21 0 (by decide) (by decide) rfl rfl) ⟨mw_1160, kw_X6_views⟩ ⟨⟨rfl, rfl⟩, ko_X6_views, ⟨Nat.le_of_ble_eq_true rfl, Nat.le_of_ble_eq_true rfl⟩⟩ rfl rfl (Nat.le_of_ble_eq_true rfl) dX6_segmentOf_26 ⟨Nat.le_of_ble_eq_true rfl, Nat.le_of_ble_eq_true rfl⟩) (fun H locs hW => ?_)
      refine lv_iload_n hx hb dX6_segmentOf_29 rfl (lv_at hl 3 rfl) ?_
      refine lv_iconst (v := 0) hx hb dX6_segmentOf_30 (by decide) ?_
      refine lv_iconst (v := 3) hx hb dX6_segmentOf_31 (by decide) ?_
      obtain ⟨r12, e11, hf⟩ := bnd_ex hf
      refine k_i X hW (k_S (As := [.int x3, .int 0, .int 3]) (rest := []) X hW hml hl.1 (c_X6_in l g hDW  _ _ _ m10 _ e11) ⟨mw_1016, kw_X6_in⟩ ⟨⟨rfl, rfl⟩, ko_X6_in, ⟨Nat.le_of_ble_eq_true rfl, Nat.le_of_ble_eq_true rfl⟩⟩ rfl rfl (Nat.le_of_ble_eq_true rfl) dX6_segmentOf_32 ⟨Nat.le_of_ble_eq_true rfl, Nat.le_of_ble_eq_true rfl⟩) (fun H locs hW => ?_)
      refine lv_if_eq (tgt := 48) hx hb dX6_segmentOf_35 (by decide) (fun c20 => ?_) (fun c20 => ?_)
      · replace hf := ite_t hf c20
        refine lv_aload_n hx hb dX6_segmentOf_48 rfl (lv_at hl 0 rfl) ?_
        refine lv_iconst (v := 2) hx hb dX6_segmentOf_49 (by decide) ?_
        obtain ⟨r15, m16, e14, hf⟩ := bn2_ex hf
        refine k_i X hW (k_V (As := [.int 2]) (rest := []) X hW hml hl.1 (c_X6_fails l g hDW  _ m10 _ _ e14) (r_recv X hW 21 0 (by decide) (by decide) rfl rfl) ⟨mw_1019, kw_X6_fails⟩ ⟨⟨rfl, rfl⟩, ko_X6_fails, ⟨Nat.le_of_ble_eq_true rfl, Nat.le_of_ble_eq_true rfl⟩⟩ rfl rfl (Nat.le_of_ble_eq_true rfl) dX6_segmentOf_50 ⟨Nat.le_of_ble_eq_true rfl, Nat.le_of_ble_eq_true rfl⟩) (fun H locs hW => ?_)
        obtain ⟨hf, hm⟩ := prinj hf
        replace hW := hW.same hm.symm
        exact e_i X hr hW (hf) dX6_segmentOf_53
      · replace hf := ite_f hf c20
        refine lv_aload_n hx hb dX6_segmentOf_38 rfl (lv_at hl 0 rfl) ?_
        refine lv_iload_n hx hb dX6_segmentOf_39 rfl (lv_at hl 1 rfl) ?_
        refine lv_iload_n hx hb dX6_segmentOf_40 rfl (lv_at hl 2 rfl) ?_
        refine lv_iload_n hx hb dX6_segmentOf_41 rfl (lv_at hl 3 rfl) ?_
        obtain ⟨r18, e17, hf⟩ := bnd_ex hf
        refine k_i X hW (k_V (As := [.int x1, .int x2, .int x3]) (rest := []) X hW hml hl.1 (c_X6_tellsSegment l g hDW  _ _ _ m10 _ e17) (r_recv X hW 21 0 (by decide) (by decide) rfl rfl) ⟨mw_1211, kw_X6_tellsSegment⟩ ⟨⟨rfl, rfl⟩, ko_X6_tellsSegment, ⟨Nat.le_of_ble_eq_true rfl, Nat.le_of_ble_eq_true rfl⟩⟩ rfl rfl (Nat.le_of_ble_eq_true rfl) dX6_segmentOf_42 ⟨Nat.le_of_ble_eq_true rfl, Nat.le_of_ble_eq_true rfl⟩) (fun H locs hW => ?_)
        refine lv_goto (tgt := 53) hx hb dX6_segmentOf_45 (by decide) ?_
        obtain ⟨hf, hm⟩ := prinj hf
        replace hW := hW.same hm.symm
        exact e_i X hr hW (hf) dX6_segmentOf_53
    · replace hf := ite_t hf c21
      exact P_19 _ _ _ _ hW (lv_sub hl [0] rfl) hf
set_option maxRecDepth 100000 in
set_option maxHeartbeats 4000000 in
theorem c_X6_nextLit (l : Launch) (g : gG) (hDW : DW g) (mm : gM) (r0 : Int32) (hf : fX6_nextLit mm = some r0) : Met l yX6_nextLit (Cond.code yX6_nextLit cX6_nextLit 2 (some .int) :: ALLW) rm_X6_nextLit (CPre g mm [.ref (ad g 21 0)]) (CI g mm r0) 0 0 (gA g) := by
  refine Met.ofW (cc := cX6_nextLit) (maxL := 2) (ret := (some .int)) (by decide) rfl ?_
  intro p e s m args below meth c s₁ B hml hv
  obtain ⟨ha, hFx, hP0, hlo⟩ := hv
  have X : Cx g p s m args c meth RX6 cX6_nextLit := Cx_of hDW hFx hlo B
  have hx := X.1
  have hb := X.2.1
  have hr := B.returns
  have hlocks := X.2.2.2.2.2.2.2
  have hW : Wd g mm s s.heap [] := ⟨hP0, va_S.rf⟩
  rw [ha, lg_entry_eq]
  have hl := lv_entry ([.ref (ad g 21 0)] : List Value) (n := 2) (Nat.le_of_ble_eq_true rfl)
  generalize (lg_sl ([.ref (ad g 21 0)] : List Value) ++ List.replicate (2 - (lg_sl ([.ref (ad g 21 0)] : List Value)).length) Slot.unset).toArray = ls at hl ⊢
  have hl : lv_has ls 2 [(0, .ref (ad g 21 0))] := hl
  rw [← ha]
  show W p l e rm_X6_nextLit s m args below meth c s.heap [] 0 0 (MQ below (CI g mm r0) args s 0 0 (gA g)) (F0 m 0 ls [])
  unfold fX6_nextLit at hf
  refine lv_aload_n hx hb dX6_nextLit_0 rfl (lv_at hl 0 rfl) ?_
  obtain ⟨r2, e1, hf⟩ := bnd_ex hf
  refine k_i X hW (k_V (As := []) (rest := []) X hW hml hl.1 (c_X6_roundTicks l g hDW   mm _ e1) (r_recv X hW 21 0 (by decide) (by decide) rfl rfl) ⟨mw_1088, kw_X6_roundTicks⟩ ⟨⟨rfl, rfl⟩, ko_X6_roundTicks, ⟨Nat.le_of_ble_eq_true rfl, Nat.le_of_ble_eq_true rfl⟩⟩ rfl rfl (Nat.le_of_ble_eq_true rfl) dX6_nextLit_1 ⟨Nat.le_of_ble_eq_true rfl, Nat.le_of_ble_eq_true rfl⟩) (fun H locs hW => ?_)
  refine lv_if_ne (tgt := 9) hx hb dX6_nextLit_4 (by decide) (fun c12 => ?_) (fun c12 => ?_)
  · replace hf := ite_f hf c12
    refine lv_aload_n hx hb dX6_nextLit_9 rfl (lv_at hl 0 rfl) ?_
    refine lv_aload_n hx hb dX6_nextLit_10 rfl (lv_at hl 0 rfl) ?_
    refine gf_21_1 X hW (by decide) mw_948 dX6_nextLit_11 ?_
    refine lv_bipush (v := 6) hx hb dX6_nextLit_14 (by decide) ?_
    obtain ⟨b4, hf⟩ := chk_ex hf
    refine r_iald X hW 22 0 (by decide) (by decide) rfl b4 dX6_nextLit_16 ?_
    obtain ⟨r6, e5, hf⟩ := bnd_ex hf
    refine k_i X hW (k_V (As := [.int (gi mm 22 0 (6 : Int32).toNatClampNeg)]) (rest := []) X hW hml hl.1 (c_X6_slotAt l g hDW  _ mm _ e5) (r_recv X hW 21 0 (by decide) (by decide) rfl rfl) ⟨mw_1105, kw_X6_slotAt⟩ ⟨⟨rfl, rfl⟩, ko_X6_slotAt, ⟨Nat.le_of_ble_eq_true rfl, Nat.le_of_ble_eq_true rfl⟩⟩ rfl rfl (Nat.le_of_ble_eq_true rfl) dX6_nextLit_17 ⟨Nat.le_of_ble_eq_true rfl, Nat.le_of_ble_eq_true rfl⟩) (fun H locs hW => ?_)
    refine lv_istore_n (lv' := [(1, .int r6), (0, .ref (ad g 21 0))]) hx hb dX6_nextLit_20 rfl hl (by decide) rfl (fun ls hl => ?_)
    refine lv_iload_n hx hb dX6_nextLit_21 rfl (lv_at hl 0 rfl) ?_
    refine lv_bipush (v := 100) hx hb dX6_nextLit_22 (by decide) ?_
    obtain ⟨b8, hf⟩ := chk_ex hf
    refine r_irem hx hb dX6_nextLit_24 b8 ?_
    refine lv_aload_n hx hb dX6_nextLit_25 rfl (lv_at hl 1 rfl) ?_
    refine gf_21_1 X hW (by decide) mw_948 dX6_nextLit_26 ?_
    refine lv_iconst (v := 0) hx hb dX6_nextLit_29 (by decide) ?_
    obtain ⟨b9, hf⟩ := chk_ex hf
    refine r_iald X hW 22 0 (by decide) (by decide) rfl b9 dX6_nextLit_30 ?_
    refine lv_icmp_lt (tgt := 41) hx hb dX6_nextLit_31 (by decide) (fun c11 => ?_) (fun c11 => ?_)
    · replace hf := ite_t hf c11
      refine lv_iconst (v := -1) hx hb dX6_nextLit_41 (by decide) ?_
      exact e_i X hr hW (someinj hf) dX6_nextLit_42
    · replace hf := ite_f hf c11
      refine lv_iload_n hx hb dX6_nextLit_34 rfl (lv_at hl 0 rfl) ?_
      refine lv_bipush (v := 100) hx hb dX6_nextLit_35 (by decide) ?_
      obtain ⟨b10, hf⟩ := chk_ex hf
      refine lv_idiv hx hb dX6_nextLit_37 b10 ?_
      refine lv_goto (tgt := 42) hx hb dX6_nextLit_38 (by decide) ?_
      exact e_i X hr hW (someinj hf) dX6_nextLit_42
  · replace hf := ite_t hf c12
    refine lv_iconst (v := -1) hx hb dX6_nextLit_7 (by decide) ?_
    exact e_i X hr hW (someinj hf) dX6_nextLit_8
set_option maxRecDepth 100000 in
set_option maxHeartbeats 4000000 in
theorem c_X6_allLight (l : Launch) (g : gG) (hDW : DW g) (mm : gM) (r0 : Int32) (hf : fX6_allLight mm = some r0) : Met l yX6_allLight (Cond.code yX6_allLight cX6_allLight 3 (some .int) :: ALLW) rm_X6_allLight (CPre g mm [.ref (ad g 21 0)]) (CI g mm r0) 0 0 (gA g) := by
  refine Met.ofW (cc := cX6_allLight) (maxL := 3) (ret := (some .int)) (by decide) rfl ?_
  intro p e s m args below meth c s₁ B hml hv
  obtain ⟨ha, hFx, hP0, hlo⟩ := hv
  have X : Cx g p s m args c meth RX6 cX6_allLight := Cx_of hDW hFx hlo B
  have hx := X.1
  have hb := X.2.1
  have hr := B.returns
  have hlocks := X.2.2.2.2.2.2.2
  have hW : Wd g mm s s.heap [] := ⟨hP0, va_S.rf⟩
  rw [ha, lg_entry_eq]
  have hl := lv_entry ([.ref (ad g 21 0)] : List Value) (n := 3) (Nat.le_of_ble_eq_true rfl)
  generalize (lg_sl ([.ref (ad g 21 0)] : List Value) ++ List.replicate (3 - (lg_sl ([.ref (ad g 21 0)] : List Value)).length) Slot.unset).toArray = ls at hl ⊢
  have hl : lv_has ls 3 [(0, .ref (ad g 21 0))] := hl
  rw [← ha]
  show W p l e rm_X6_allLight s m args below meth c s.heap [] 0 0 (MQ below (CI g mm r0) args s 0 0 (gA g)) (F0 m 0 ls [])
  have P_4 : ∀ (n4 : Nat) (x1 : Int32) (x2 : Int32) (H : Heap) (locs : List Loc) (ls : Array Slot), Wd g mm s H locs → lv_has ls 3 [(0, .ref (ad g 21 0)), (1, .int x1), (2, .int x2)] → lX6_allLight_4 mm n4 x1 x2 = some r0 → W p l e rm_X6_allLight s m args below meth c H locs 0 0 (MQ below (CI g mm r0) args s 0 0 (gA g)) (F0 m 4 ls []) := by
    intro n4
    induction n4 with
    | zero => intro x1 x2 H locs ls hW hl hf; exact (no_some hf).elim
    | succ n4 ih_4 =>
      intro x1 x2 H locs ls hW hl hf
      rw [lX6_allLight_4_s] at hf
      refine lv_iload_n hx hb dX6_allLight_4 rfl (lv_at hl 2 rfl) ?_
      refine lv_bipush (v := 6) hx hb dX6_allLight_5 (by decide) ?_
      refine lv_icmp_ge (tgt := 40) hx hb dX6_allLight_7 (by decide) (fun c13 => ?_) (fun c13 => ?_)
      · replace hf := ite_t hf c13
        refine lv_iload_n hx hb dX6_allLight_40 rfl (lv_at hl 1 rfl) ?_
        exact e_i X hr hW (someinj hf) dX6_allLight_41
      · replace hf := ite_f hf c13
        refine lv_iload_n hx hb dX6_allLight_10 rfl (lv_at hl 1 rfl) ?_
        refine lv_aload_n hx hb dX6_allLight_11 rfl (lv_at hl 0 rfl) ?_
        refine lv_iload_n hx hb dX6_allLight_12 rfl (lv_at hl 2 rfl) ?_
        refine lv_iconst (v := 2) hx hb dX6_allLight_13 (by decide) ?_
        obtain ⟨r2, e1, hf⟩ := bnd_ex hf
        refine k_i X hW (k_V (As := [.int x2, .int 2]) (rest := [.int x1]) X hW hml hl.1 (c_X6_of l g hDW  _ _ mm _ e1) (r_recv X hW 21 0 (by decide) (by decide) rfl rfl) ⟨mw_1027, kw_X6_of⟩ ⟨⟨rfl, rfl⟩, ko_X6_of, ⟨Nat.le_of_ble_eq_true rfl, Nat.le_of_ble_eq_true rfl⟩⟩ rfl rfl (Nat.le_of_ble_eq_true rfl) dX6_allLight_14 ⟨Nat.le_of_ble_eq_true rfl, Nat.le_of_ble_eq_true rfl⟩) (fun H locs hW => ?_)
        refine lv_aload_n hx hb dX6_allLight_17 rfl (lv_at hl 0 rfl) ?_
        refine lv_iload_n hx hb dX6_allLight_18 rfl (lv_at hl 2 rfl) ?_
        obtain ⟨r5, e4, hf⟩ := bnd_ex hf
        refine k_i X hW (k_V (As := [.int x2]) (rest := [.int r2, .int x1]) X hW hml hl.1 (c_X6_light l g hDW  _ mm _ e4) (r_recv X hW 21 0 (by decide) (by decide) rfl rfl) ⟨mw_1113, kw_X6_light⟩ ⟨⟨rfl, rfl⟩, ko_X6_light, ⟨Nat.le_of_ble_eq_true rfl, Nat.le_of_ble_eq_true rfl⟩⟩ rfl rfl (Nat.le_of_ble_eq_true rfl) dX6_allLight_19 ⟨Nat.le_of_ble_eq_true rfl, Nat.le_of_ble_eq_true rfl⟩) (fun H locs hW => ?_)
        refine lv_imul hx hb dX6_allLight_22 ?_
        refine lv_aload_n hx hb dX6_allLight_23 rfl (lv_at hl 0 rfl) ?_
        refine lv_iload_n hx hb dX6_allLight_24 rfl (lv_at hl 2 rfl) ?_
        obtain ⟨r8, e7, hf⟩ := bnd_ex hf
        refine k_i X hW (k_V (As := [.int x2]) (rest := [.int (r2 * r5), .int x1]) X hW hml hl.1 (c_X6_works l g hDW  _ mm _ e7) (r_recv X hW 21 0 (by decide) (by decide) rfl rfl) ⟨mw_1058, kw_X6_works⟩ ⟨⟨rfl, rfl⟩, ko_X6_works, ⟨Nat.le_of_ble_eq_true rfl, Nat.le_of_ble_eq_true rfl⟩⟩ rfl rfl (Nat.le_of_ble_eq_true rfl) dX6_allLight_25 ⟨Nat.le_of_ble_eq_true rfl, Nat.le_of_ble_eq_true rfl⟩) (fun H locs hW => ?_)
        obtain ⟨r11, e10, hf⟩ := bnd_ex hf
        refine k_i X hW (k_S (As := [.int r8]) (rest := [.int (r2 * r5), .int x1]) X hW hml hl.1 (c_X6_ones l g hDW  _ mm _ e10) ⟨mw_1077, kw_X6_ones⟩ ⟨⟨rfl, rfl⟩, ko_X6_ones, ⟨Nat.le_of_ble_eq_true rfl, Nat.le_of_ble_eq_true rfl⟩⟩ rfl rfl (Nat.le_of_ble_eq_true rfl) dX6_allLight_28 ⟨Nat.le_of_ble_eq_true rfl, Nat.le_of_ble_eq_true rfl⟩) (fun H locs hW => ?_)
        refine lv_imul hx hb dX6_allLight_31 ?_
        refine lv_iadd hx hb dX6_allLight_32 ?_
        refine lv_istore_n (lv' := [(1, .int (x1 + ((r2 * r5) * r11))), (0, .ref (ad g 21 0)), (2, .int x2)]) hx hb dX6_allLight_33 rfl hl (by decide) rfl (fun ls hl => ?_)
        refine lv_iinc (v := x2 + 1) (lv' := [(2, .int (x2 + 1)), (1, .int (x1 + ((r2 * r5) * r11))), (0, .ref (ad g 21 0))]) hx hb dX6_allLight_34 hl (k := 2) rfl rfl (by decide) rfl (fun ls hl => ?_)
        refine lv_goto (tgt := 4) hx hb dX6_allLight_37 (by decide) ?_
        exact ih_4 _ _ _ _ _ hW (lv_sub hl [2, 1, 0] rfl) hf
  unfold fX6_allLight at hf
  refine lv_iconst (v := 0) hx hb dX6_allLight_0 (by decide) ?_
  refine lv_istore_n (lv' := [(1, .int 0), (0, .ref (ad g 21 0))]) hx hb dX6_allLight_1 rfl hl (by decide) rfl (fun ls hl => ?_)
  refine lv_iconst (v := 0) hx hb dX6_allLight_2 (by decide) ?_
  refine lv_istore_n (lv' := [(2, .int 0), (1, .int 0), (0, .ref (ad g 21 0))]) hx hb dX6_allLight_3 rfl hl (by decide) rfl (fun ls hl => ?_)
  exact P_4 _ _ _ _ _ _ hW (lv_sub hl [2, 1, 0] rfl) hf
set_option maxRecDepth 100000 in
set_option maxHeartbeats 4000000 in
theorem c_X6_readWell (l : Launch) (g : gG) (hDW : DW g) (mm : gM) (r0 : Int32) (hf : fX6_readWell mm = some r0) : Met l yX6_readWell (Cond.code yX6_readWell cX6_readWell 3 (some .int) :: ALLW) rm_X6_readWell (CPre g mm [.ref (ad g 21 0)]) (CI g mm r0) 0 0 (gA g) := by
  refine Met.ofW (cc := cX6_readWell) (maxL := 3) (ret := (some .int)) (by decide) rfl ?_
  intro p e s m args below meth c s₁ B hml hv
  obtain ⟨ha, hFx, hP0, hlo⟩ := hv
  have X : Cx g p s m args c meth RX6 cX6_readWell := Cx_of hDW hFx hlo B
  have hx := X.1
  have hb := X.2.1
  have hr := B.returns
  have hlocks := X.2.2.2.2.2.2.2
  have hW : Wd g mm s s.heap [] := ⟨hP0, va_S.rf⟩
  rw [ha, lg_entry_eq]
  have hl := lv_entry ([.ref (ad g 21 0)] : List Value) (n := 3) (Nat.le_of_ble_eq_true rfl)
  generalize (lg_sl ([.ref (ad g 21 0)] : List Value) ++ List.replicate (3 - (lg_sl ([.ref (ad g 21 0)] : List Value)).length) Slot.unset).toArray = ls at hl ⊢
  have hl : lv_has ls 3 [(0, .ref (ad g 21 0))] := hl
  rw [← ha]
  show W p l e rm_X6_readWell s m args below meth c s.heap [] 0 0 (MQ below (CI g mm r0) args s 0 0 (gA g)) (F0 m 0 ls [])
  have P_4 : ∀ (n4 : Nat) (x1 : Int32) (x2 : Int32) (H : Heap) (locs : List Loc) (ls : Array Slot), Wd g mm s H locs → lv_has ls 3 [(0, .ref (ad g 21 0)), (1, .int x1), (2, .int x2)] → lX6_readWell_4 mm n4 x1 x2 = some r0 → W p l e rm_X6_readWell s m args below meth c H locs 0 0 (MQ below (CI g mm r0) args s 0 0 (gA g)) (F0 m 4 ls []) := by
    intro n4
    induction n4 with
    | zero => intro x1 x2 H locs ls hW hl hf; exact (no_some hf).elim
    | succ n4 ih_4 =>
      have P_30 : ∀ (x2 : Int32) (s0 : Int32) (s1 : Int32) (H : Heap) (locs : List Loc) (ls : Array Slot), Wd g mm s H locs → lv_has ls 3 [(0, .ref (ad g 21 0)), (2, .int x2)] → jX6_readWell_30 (lX6_readWell_4 mm n4) mm x2 s0 s1 = some r0 → W p l e rm_X6_readWell s m args below meth c H locs 0 0 (MQ below (CI g mm r0) args s 0 0 (gA g)) (F0 m 30 ls [.int s1, .int s0]) := by
        intro x2 s0 s1 H locs ls hW hl hf
        unfold jX6_readWell_30 at hf
        refine lv_iadd hx hb dX6_readWell_30 ?_
        refine lv_istore_n (lv' := [(1, .int (s0 + s1)), (0, .ref (ad g 21 0)), (2, .int x2)]) hx hb dX6_readWell_31 rfl hl (by decide) rfl (fun ls hl => ?_)
        refine lv_iinc (v := x2 + 1) (lv' := [(2, .int (x2 + 1)), (1, .int (s0 + s1)), (0, .ref (ad g 21 0))]) hx hb dX6_readWell_32 hl (k := 2) rfl rfl (by decide) rfl (fun ls hl => ?_)
        refine lv_goto (tgt := 4) hx hb dX6_readWell_35 (by decide) ?_
        exact ih_4 _ _ _ _ _ hW (lv_sub hl [2, 1, 0] rfl) hf
      intro x1 x2 H locs ls hW hl hf
      rw [lX6_readWell_4_s] at hf
      refine lv_iload_n hx hb dX6_readWell_4 rfl (lv_at hl 2 rfl) ?_
      refine lv_bipush (v := 6) hx hb dX6_readWell_5 (by decide) ?_
      refine lv_icmp_ge (tgt := 38) hx hb dX6_readWell_7 (by decide) (fun c8 => ?_) (fun c8 => ?_)
      · replace hf := ite_t hf c8
        refine lv_iload_n hx hb dX6_readWell_38 rfl (lv_at hl 1 rfl) ?_
        exact e_i X hr hW (someinj hf) dX6_readWell_39
      · replace hf := ite_f hf c8
        refine lv_iload_n hx hb dX6_readWell_10 rfl (lv_at hl 1 rfl) ?_
        refine lv_aload_n hx hb dX6_readWell_11 rfl (lv_at hl 0 rfl) ?_
        refine lv_iload_n hx hb dX6_readWell_12 rfl (lv_at hl 2 rfl) ?_
        obtain ⟨r2, e1, hf⟩ := bnd_ex hf
        refine k_i X hW (k_V (As := [.int x2]) (rest := [.int x1]) X hW hml hl.1 (c_X6_readOf l g hDW  _ mm _ e1) (r_recv X hW 21 0 (by decide) (by decide) rfl rfl) ⟨mw_1164, kw_X6_readOf⟩ ⟨⟨rfl, rfl⟩, ko_X6_readOf, ⟨Nat.le_of_ble_eq_true rfl, Nat.le_of_ble_eq_true rfl⟩⟩ rfl rfl (Nat.le_of_ble_eq_true rfl) dX6_readWell_13 ⟨Nat.le_of_ble_eq_true rfl, Nat.le_of_ble_eq_true rfl⟩) (fun H locs hW => ?_)
        refine lv_aload_n hx hb dX6_readWell_16 rfl (lv_at hl 0 rfl) ?_
        refine lv_iload_n hx hb dX6_readWell_17 rfl (lv_at hl 2 rfl) ?_
        refine lv_iconst (v := 0) hx hb dX6_readWell_18 (by decide) ?_
        obtain ⟨r5, e4, hf⟩ := bnd_ex hf
        refine k_i X hW (k_V (As := [.int x2, .int 0]) (rest := [.int r2, .int x1]) X hW hml hl.1 (c_X6_of l g hDW  _ _ mm _ e4) (r_recv X hW 21 0 (by decide) (by decide) rfl rfl) ⟨mw_1027, kw_X6_of⟩ ⟨⟨rfl, rfl⟩, ko_X6_of, ⟨Nat.le_of_ble_eq_true rfl, Nat.le_of_ble_eq_true rfl⟩⟩ rfl rfl (Nat.le_of_ble_eq_true rfl) dX6_readWell_19 ⟨Nat.le_of_ble_eq_true rfl, Nat.le_of_ble_eq_true rfl⟩) (fun H locs hW => ?_)
        refine lv_icmp_ne (tgt := 29) hx hb dX6_readWell_22 (by decide) (fun c7 => ?_) (fun c7 => ?_)
        · replace hf := ite_f hf c7
          refine lv_iconst (v := 0) hx hb dX6_readWell_29 (by decide) ?_
          exact P_30 _ _ _ _ _ _ hW (lv_sub hl [0, 2] rfl) hf
        · replace hf := ite_t hf c7
          refine lv_iconst (v := 1) hx hb dX6_readWell_25 (by decide) ?_
          refine lv_goto (tgt := 30) hx hb dX6_readWell_26 (by decide) ?_
          exact P_30 _ _ _ _ _ _ hW (lv_sub hl [0, 2] rfl) hf
  unfold fX6_readWell at hf
  refine lv_iconst (v := 0) hx hb dX6_readWell_0 (by decide) ?_
  refine lv_istore_n (lv' := [(1, .int 0), (0, .ref (ad g 21 0))]) hx hb dX6_readWell_1 rfl hl (by decide) rfl (fun ls hl => ?_)
  refine lv_iconst (v := 0) hx hb dX6_readWell_2 (by decide) ?_
  refine lv_istore_n (lv' := [(2, .int 0), (1, .int 0), (0, .ref (ad g 21 0))]) hx hb dX6_readWell_3 rfl hl (by decide) rfl (fun ls hl => ?_)
  exact P_4 _ _ _ _ _ _ hW (lv_sub hl [2, 1, 0] rfl) hf
set_option maxRecDepth 100000 in
set_option maxHeartbeats 4000000 in
theorem c_X6_apart (l : Launch) (g : gG) (hDW : DW g) (mm : gM) (r0 : Int32) (hf : fX6_apart mm = some r0) : Met l yX6_apart (Cond.code yX6_apart cX6_apart 5 (some .int) :: ALLW) rm_X6_apart (CPre g mm [.ref (ad g 21 0)]) (CI g mm r0) 0 0 (gA g) := by
  refine Met.ofW (cc := cX6_apart) (maxL := 5) (ret := (some .int)) (by decide) rfl ?_
  intro p e s m args below meth c s₁ B hml hv
  obtain ⟨ha, hFx, hP0, hlo⟩ := hv
  have X : Cx g p s m args c meth RX6 cX6_apart := Cx_of hDW hFx hlo B
  have hx := X.1
  have hb := X.2.1
  have hr := B.returns
  have hlocks := X.2.2.2.2.2.2.2
  have hW : Wd g mm s s.heap [] := ⟨hP0, va_S.rf⟩
  rw [ha, lg_entry_eq]
  have hl := lv_entry ([.ref (ad g 21 0)] : List Value) (n := 5) (Nat.le_of_ble_eq_true rfl)
  generalize (lg_sl ([.ref (ad g 21 0)] : List Value) ++ List.replicate (5 - (lg_sl ([.ref (ad g 21 0)] : List Value)).length) Slot.unset).toArray = ls at hl ⊢
  have hl : lv_has ls 5 [(0, .ref (ad g 21 0))] := hl
  rw [← ha]
  show W p l e rm_X6_apart s m args below meth c s.heap [] 0 0 (MQ below (CI g mm r0) args s 0 0 (gA g)) (F0 m 0 ls [])
  have P_69 : ∀ (x1 : Int32) (x2 : Int32) (H : Heap) (locs : List Loc) (ls : Array Slot), Wd g mm s H locs → lv_has ls 5 [(1, .int x1), (2, .int x2)] → jX6_apart_69 mm x1 x2 = some r0 → W p l e rm_X6_apart s m args below meth c H locs 0 0 (MQ below (CI g mm r0) args s 0 0 (gA g)) (F0 m 69 ls []) := by
    intro x1 x2 H locs ls hW hl hf
    unfold jX6_apart_69 at hf
    refine lv_iload_n hx hb dX6_apart_69 rfl (lv_at hl 0 rfl) ?_
    refine lv_iload_n hx hb dX6_apart_70 rfl (lv_at hl 1 rfl) ?_
    refine lv_isub hx hb dX6_apart_71 ?_
    exact e_i X hr hW (someinj hf) dX6_apart_72
  have P_6 : ∀ (n6 : Nat) (x1 : Int32) (x2 : Int32) (x3 : Int32) (H : Heap) (locs : List Loc) (ls : Array Slot), Wd g mm s H locs → lv_has ls 5 [(0, .ref (ad g 21 0)), (1, .int x1), (2, .int x2), (3, .int x3)] → lX6_apart_6 mm n6 x1 x2 x3 = some r0 → W p l e rm_X6_apart s m args below meth c H locs 0 0 (MQ below (CI g mm r0) args s 0 0 (gA g)) (F0 m 6 ls []) := by
    intro n6
    induction n6 with
    | zero => intro x1 x2 x3 H locs ls hW hl hf; exact (no_some hf).elim
    | succ n6 ih_6 =>
      have P_63 : ∀ (x1 : Int32) (x2 : Int32) (x3 : Int32) (H : Heap) (locs : List Loc) (ls : Array Slot), Wd g mm s H locs → lv_has ls 5 [(0, .ref (ad g 21 0)), (1, .int x1), (2, .int x2), (3, .int x3)] → jX6_apart_63 (lX6_apart_6 mm n6) mm x1 x2 x3 = some r0 → W p l e rm_X6_apart s m args below meth c H locs 0 0 (MQ below (CI g mm r0) args s 0 0 (gA g)) (F0 m 63 ls []) := by
        intro x1 x2 x3 H locs ls hW hl hf
        unfold jX6_apart_63 at hf
        refine lv_iinc (v := x3 + 1) (lv' := [(3, .int (x3 + 1)), (0, .ref (ad g 21 0)), (1, .int x1), (2, .int x2)]) hx hb dX6_apart_63 hl (k := 3) rfl rfl (by decide) rfl (fun ls hl => ?_)
        refine lv_goto (tgt := 6) hx hb dX6_apart_66 (by decide) ?_
        exact ih_6 _ _ _ _ _ _ hW (lv_sub hl [1, 2, 3, 0] rfl) hf
      have P_62 : ∀ (x1 : Int32) (x3 : Int32) (s0 : Int32) (H : Heap) (locs : List Loc) (ls : Array Slot), Wd g mm s H locs → lv_has ls 5 [(0, .ref (ad g 21 0)), (1, .int x1), (3, .int x3)] → jX6_apart_62 (lX6_apart_6 mm n6) mm x1 x3 s0 = some r0 → W p l e rm_X6_apart s m args below meth c H locs 0 0 (MQ below (CI g mm r0) args s 0 0 (gA g)) (F0 m 62 ls [.int s0]) := by
        intro x1 x3 s0 H locs ls hW hl hf
        unfold jX6_apart_62 at hf
        refine lv_istore_n (lv' := [(2, .int s0), (0, .ref (ad g 21 0)), (1, .int x1), (3, .int x3)]) hx hb dX6_apart_62 rfl hl (by decide) rfl (fun ls hl => ?_)
        exact P_63 _ _ _ _ _ _ hW (lv_sub hl [1, 2, 0, 3] rfl) hf
      have P_56 : ∀ (x1 : Int32) (x3 : Int32) (x4 : Int32) (H : Heap) (locs : List Loc) (ls : Array Slot), Wd g mm s H locs → lv_has ls 5 [(0, .ref (ad g 21 0)), (1, .int x1), (3, .int x3), (4, .int x4)] → jX6_apart_56 (lX6_apart_6 mm n6) mm x1 x3 x4 = some r0 → W p l e rm_X6_apart s m args below meth c H locs 0 0 (MQ below (CI g mm r0) args s 0 0 (gA g)) (F0 m 56 ls []) := by
        intro x1 x3 x4 H locs ls hW hl hf
        unfold jX6_apart_56 at hf
        refine lv_iload hx hb dX6_apart_56 (lv_at hl 3 rfl) ?_
        refine lv_goto (tgt := 62) hx hb dX6_apart_58 (by decide) ?_
        exact P_62 _ _ _ _ _ _ hW (lv_sub hl [0, 1, 2] rfl) hf
      have P_44 : ∀ (x2 : Int32) (x3 : Int32) (x4 : Int32) (s0 : Int32) (H : Heap) (locs : List Loc) (ls : Array Slot), Wd g mm s H locs → lv_has ls 5 [(0, .ref (ad g 21 0)), (2, .int x2), (3, .int x3), (4, .int x4)] → jX6_apart_44 (lX6_apart_6 mm n6) mm x2 x3 x4 s0 = some r0 → W p l e rm_X6_apart s m args below meth c H locs 0 0 (MQ below (CI g mm r0) args s 0 0 (gA g)) (F0 m 44 ls [.int s0]) := by
        intro x2 x3 x4 s0 H locs ls hW hl hf
        unfold jX6_apart_44 at hf
        refine lv_istore_n (lv' := [(1, .int s0), (0, .ref (ad g 21 0)), (2, .int x2), (3, .int x3), (4, .int x4)]) hx hb dX6_apart_44 rfl hl (by decide) rfl (fun ls hl => ?_)
        refine lv_iload_n hx hb dX6_apart_45 rfl (lv_at hl 2 rfl) ?_
        refine lv_iconst (v := -1) hx hb dX6_apart_46 (by decide) ?_
        refine lv_icmp_eq (tgt := 56) hx hb dX6_apart_47 (by decide) (fun c12 => ?_) (fun c12 => ?_)
        · replace hf := ite_t hf c12
          exact P_56 _ _ _ _ _ _ hW (lv_sub hl [1, 0, 3, 4] rfl) hf
        · replace hf := ite_f hf c12
          refine lv_iload hx hb dX6_apart_50 (lv_at hl 4 rfl) ?_
          refine lv_iload_n hx hb dX6_apart_52 rfl (lv_at hl 2 rfl) ?_
          refine lv_icmp_ge (tgt := 61) hx hb dX6_apart_53 (by decide) (fun c11 => ?_) (fun c11 => ?_)
          · replace hf := ite_t hf c11
            refine lv_iload_n hx hb dX6_apart_61 rfl (lv_at hl 2 rfl) ?_
            exact P_62 _ _ _ _ _ _ hW (lv_sub hl [1, 0, 3] rfl) hf
          · replace hf := ite_f hf c11
            exact P_56 _ _ _ _ _ _ hW (lv_sub hl [1, 0, 3, 4] rfl) hf
      have P_38 : ∀ (x2 : Int32) (x3 : Int32) (x4 : Int32) (H : Heap) (locs : List Loc) (ls : Array Slot), Wd g mm s H locs → lv_has ls 5 [(0, .ref (ad g 21 0)), (2, .int x2), (3, .int x3), (4, .int x4)] → jX6_apart_38 (lX6_apart_6 mm n6) mm x2 x3 x4 = some r0 → W p l e rm_X6_apart s m args below meth c H locs 0 0 (MQ below (CI g mm r0) args s 0 0 (gA g)) (F0 m 38 ls []) := by
        intro x2 x3 x4 H locs ls hW hl hf
        unfold jX6_apart_38 at hf
        refine lv_iload hx hb dX6_apart_38 (lv_at hl 3 rfl) ?_
        refine lv_goto (tgt := 44) hx hb dX6_apart_40 (by decide) ?_
        exact P_44 _ _ _ _ _ _ _ hW (lv_sub hl [0, 1, 2, 3] rfl) hf
      intro x1 x2 x3 H locs ls hW hl hf
      rw [lX6_apart_6_s] at hf
      refine lv_iload_n hx hb dX6_apart_6 rfl (lv_at hl 3 rfl) ?_
      refine lv_bipush (v := 6) hx hb dX6_apart_7 (by decide) ?_
      refine lv_icmp_ge (tgt := 69) hx hb dX6_apart_9 (by decide) (fun c10 => ?_) (fun c10 => ?_)
      · replace hf := ite_t hf c10
        exact P_69 _ _ _ _ _ hW (lv_sub hl [1, 2] rfl) hf
      · replace hf := ite_f hf c10
        refine lv_aload_n hx hb dX6_apart_12 rfl (lv_at hl 0 rfl) ?_
        refine lv_iload_n hx hb dX6_apart_13 rfl (lv_at hl 3 rfl) ?_
        obtain ⟨r2, e1, hf⟩ := bnd_ex hf
        refine k_i X hW (k_V (As := [.int x3]) (rest := []) X hW hml hl.1 (c_X6_works l g hDW  _ mm _ e1) (r_recv X hW 21 0 (by decide) (by decide) rfl rfl) ⟨mw_1058, kw_X6_works⟩ ⟨⟨rfl, rfl⟩, ko_X6_works, ⟨Nat.le_of_ble_eq_true rfl, Nat.le_of_ble_eq_true rfl⟩⟩ rfl rfl (Nat.le_of_ble_eq_true rfl) dX6_apart_14 ⟨Nat.le_of_ble_eq_true rfl, Nat.le_of_ble_eq_true rfl⟩) (fun H locs hW => ?_)
        refine lv_if_eq (tgt := 63) hx hb dX6_apart_17 (by decide) (fun c9 => ?_) (fun c9 => ?_)
        · replace hf := ite_t hf c9
          exact P_63 _ _ _ _ _ _ hW (lv_sub hl [0, 1, 2, 3] rfl) hf
        · replace hf := ite_f hf c9
          refine lv_aload_n hx hb dX6_apart_20 rfl (lv_at hl 0 rfl) ?_
          refine lv_iload_n hx hb dX6_apart_21 rfl (lv_at hl 3 rfl) ?_
          obtain ⟨r5, e4, hf⟩ := bnd_ex hf
          refine k_i X hW (k_V (As := [.int x3]) (rest := []) X hW hml hl.1 (c_X6_meanOf l g hDW  _ mm _ e4) (r_recv X hW 21 0 (by decide) (by decide) rfl rfl) ⟨mw_1203, kw_X6_meanOf⟩ ⟨⟨rfl, rfl⟩, ko_X6_meanOf, ⟨Nat.le_of_ble_eq_true rfl, Nat.le_of_ble_eq_true rfl⟩⟩ rfl rfl (Nat.le_of_ble_eq_true rfl) dX6_apart_22 ⟨Nat.le_of_ble_eq_true rfl, Nat.le_of_ble_eq_true rfl⟩) (fun H locs hW => ?_)
          refine lv_istore (lv' := [(4, .int r5), (0, .ref (ad g 21 0)), (1, .int x1), (2, .int x2), (3, .int x3)]) hx hb dX6_apart_25 hl (by decide) rfl (fun ls hl => ?_)
          refine lv_iload_n hx hb dX6_apart_27 rfl (lv_at hl 2 rfl) ?_
          refine lv_iconst (v := -1) hx hb dX6_apart_28 (by decide) ?_
          refine lv_icmp_eq (tgt := 38) hx hb dX6_apart_29 (by decide) (fun c8 => ?_) (fun c8 => ?_)
          · replace hf := ite_t hf c8
            exact P_38 _ _ _ _ _ _ hW (lv_sub hl [1, 3, 4, 0] rfl) hf
          · replace hf := ite_f hf c8
            refine lv_iload hx hb dX6_apart_32 (lv_at hl 0 rfl) ?_
            refine lv_iload_n hx hb dX6_apart_34 rfl (lv_at hl 2 rfl) ?_
            refine lv_icmp_le (tgt := 43) hx hb dX6_apart_35 (by decide) (fun c7 => ?_) (fun c7 => ?_)
            · replace hf := ite_t hf c7
              refine lv_iload_n hx hb dX6_apart_43 rfl (lv_at hl 2 rfl) ?_
              exact P_44 _ _ _ _ _ _ _ hW (lv_sub hl [1, 3, 4, 0] rfl) hf
            · replace hf := ite_f hf c7
              exact P_38 _ _ _ _ _ _ hW (lv_sub hl [1, 3, 4, 0] rfl) hf
  unfold fX6_apart at hf
  refine lv_iconst (v := -1) hx hb dX6_apart_0 (by decide) ?_
  refine lv_istore_n (lv' := [(1, .int (-1)), (0, .ref (ad g 21 0))]) hx hb dX6_apart_1 rfl hl (by decide) rfl (fun ls hl => ?_)
  refine lv_iconst (v := -1) hx hb dX6_apart_2 (by decide) ?_
  refine lv_istore_n (lv' := [(2, .int (-1)), (1, .int (-1)), (0, .ref (ad g 21 0))]) hx hb dX6_apart_3 rfl hl (by decide) rfl (fun ls hl => ?_)
  refine lv_iconst (v := 0) hx hb dX6_apart_4 (by decide) ?_
  refine lv_istore_n (lv' := [(3, .int 0), (2, .int (-1)), (1, .int (-1)), (0, .ref (ad g 21 0))]) hx hb dX6_apart_5 rfl hl (by decide) rfl (fun ls hl => ?_)
  exact P_6 _ _ _ _ _ _ _ hW (lv_sub hl [3, 2, 1, 0] rfl) hf
set_option maxRecDepth 100000 in
set_option maxHeartbeats 4000000 in
theorem c_X6_flicker (l : Launch) (g : gG) (hDW : DW g) (mm : gM) (r0 : Int32) (hf : fX6_flicker mm = some r0) : Met l yX6_flicker (Cond.code yX6_flicker cX6_flicker 4 (some .int) :: ALLW) rm_X6_flicker (CPre g mm [.ref (ad g 21 0)]) (CI g mm r0) 0 0 (gA g) := by
  refine Met.ofW (cc := cX6_flicker) (maxL := 4) (ret := (some .int)) (by decide) rfl ?_
  intro p e s m args below meth c s₁ B hml hv
  obtain ⟨ha, hFx, hP0, hlo⟩ := hv
  have X : Cx g p s m args c meth RX6 cX6_flicker := Cx_of hDW hFx hlo B
  have hx := X.1
  have hb := X.2.1
  have hr := B.returns
  have hlocks := X.2.2.2.2.2.2.2
  have hW : Wd g mm s s.heap [] := ⟨hP0, va_S.rf⟩
  rw [ha, lg_entry_eq]
  have hl := lv_entry ([.ref (ad g 21 0)] : List Value) (n := 4) (Nat.le_of_ble_eq_true rfl)
  generalize (lg_sl ([.ref (ad g 21 0)] : List Value) ++ List.replicate (4 - (lg_sl ([.ref (ad g 21 0)] : List Value)).length) Slot.unset).toArray = ls at hl ⊢
  have hl : lv_has ls 4 [(0, .ref (ad g 21 0))] := hl
  rw [← ha]
  show W p l e rm_X6_flicker s m args below meth c s.heap [] 0 0 (MQ below (CI g mm r0) args s 0 0 (gA g)) (F0 m 0 ls [])
  have P_4 : ∀ (n4 : Nat) (x1 : Int32) (x2 : Int32) (H : Heap) (locs : List Loc) (ls : Array Slot), Wd g mm s H locs → lv_has ls 4 [(0, .ref (ad g 21 0)), (1, .int x1), (2, .int x2)] → lX6_flicker_4 mm n4 x1 x2 = some r0 → W p l e rm_X6_flicker s m args below meth c H locs 0 0 (MQ below (CI g mm r0) args s 0 0 (gA g)) (F0 m 4 ls []) := by
    intro n4
    induction n4 with
    | zero => intro x1 x2 H locs ls hW hl hf; exact (no_some hf).elim
    | succ n4 ih_4 =>
      have P_73 : ∀ (x2 : Int32) (s0 : Int32) (H : Heap) (locs : List Loc) (ls : Array Slot), Wd g mm s H locs → lv_has ls 4 [(0, .ref (ad g 21 0)), (2, .int x2)] → jX6_flicker_73 (lX6_flicker_4 mm n4) mm x2 s0 = some r0 → W p l e rm_X6_flicker s m args below meth c H locs 0 0 (MQ below (CI g mm r0) args s 0 0 (gA g)) (F0 m 73 ls [.int s0]) := by
        intro x2 s0 H locs ls hW hl hf
        unfold jX6_flicker_73 at hf
        refine lv_istore_n (lv' := [(1, .int s0), (0, .ref (ad g 21 0)), (2, .int x2)]) hx hb dX6_flicker_73 rfl hl (by decide) rfl (fun ls hl => ?_)
        refine lv_iinc (v := x2 + 1) (lv' := [(2, .int (x2 + 1)), (1, .int s0), (0, .ref (ad g 21 0))]) hx hb dX6_flicker_74 hl (k := 2) rfl rfl (by decide) rfl (fun ls hl => ?_)
        refine lv_goto (tgt := 4) hx hb dX6_flicker_77 (by decide) ?_
        exact ih_4 _ _ _ _ _ hW (lv_sub hl [2, 1, 0] rfl) hf
      have P_72 : ∀ (x1 : Int32) (x2 : Int32) (H : Heap) (locs : List Loc) (ls : Array Slot), Wd g mm s H locs → lv_has ls 4 [(0, .ref (ad g 21 0)), (1, .int x1), (2, .int x2)] → jX6_flicker_72 (lX6_flicker_4 mm n4) mm x1 x2 = some r0 → W p l e rm_X6_flicker s m args below meth c H locs 0 0 (MQ below (CI g mm r0) args s 0 0 (gA g)) (F0 m 72 ls []) := by
        intro x1 x2 H locs ls hW hl hf
        unfold jX6_flicker_72 at hf
        refine lv_iload_n hx hb dX6_flicker_72 rfl (lv_at hl 1 rfl) ?_
        exact P_73 _ _ _ _ _ hW (lv_sub hl [0, 2] rfl) hf
      have P_34 : ∀ (x1 : Int32) (x2 : Int32) (s0 : Int32) (H : Heap) (locs : List Loc) (ls : Array Slot), Wd g mm s H locs → lv_has ls 4 [(0, .ref (ad g 21 0)), (1, .int x1), (2, .int x2)] → jX6_flicker_34 (lX6_flicker_4 mm n4) mm x1 x2 s0 = some r0 → W p l e rm_X6_flicker s m args below meth c H locs 0 0 (MQ below (CI g mm r0) args s 0 0 (gA g)) (F0 m 34 ls [.int s0]) := by
        intro x1 x2 s0 H locs ls hW hl hf
        unfold jX6_flicker_34 at hf
        refine lv_istore_n (lv' := [(3, .int s0), (0, .ref (ad g 21 0)), (1, .int x1), (2, .int x2)]) hx hb dX6_flicker_34 rfl hl (by decide) rfl (fun ls hl => ?_)
        refine lv_iload_n hx hb dX6_flicker_35 rfl (lv_at hl 0 rfl) ?_
        refine lv_if_eq (tgt := 72) hx hb dX6_flicker_36 (by decide) (fun c13 => ?_) (fun c13 => ?_)
        · replace hf := ite_t hf c13
          exact P_72 _ _ _ _ _ hW (lv_sub hl [1, 2, 3] rfl) hf
        · replace hf := ite_f hf c13
          refine lv_aload_n hx hb dX6_flicker_39 rfl (lv_at hl 1 rfl) ?_
          refine gf_21_15 X hW (by decide) mw_962 dX6_flicker_40 ?_
          refine lv_iload_n hx hb dX6_flicker_43 rfl (lv_at hl 3 rfl) ?_
          obtain ⟨b8, hf⟩ := chk_ex hf
          refine r_iald X hW 31 0 (by decide) (by decide) rfl b8 dX6_flicker_44 ?_
          refine lv_aload_n hx hb dX6_flicker_45 rfl (lv_at hl 1 rfl) ?_
          refine gf_21_16 X hW (by decide) mw_963 dX6_flicker_46 ?_
          refine lv_iload_n hx hb dX6_flicker_49 rfl (lv_at hl 3 rfl) ?_
          obtain ⟨b9, hf⟩ := chk_ex hf
          refine r_iald X hW 32 0 (by decide) (by decide) rfl b9 dX6_flicker_50 ?_
          refine lv_isub hx hb dX6_flicker_51 ?_
          refine lv_iload_n hx hb dX6_flicker_52 rfl (lv_at hl 2 rfl) ?_
          refine lv_icmp_le (tgt := 72) hx hb dX6_flicker_53 (by decide) (fun c12 => ?_) (fun c12 => ?_)
          · replace hf := ite_t hf c12
            exact P_72 _ _ _ _ _ hW (lv_sub hl [1, 2, 3] rfl) hf
          · replace hf := ite_f hf c12
            refine lv_aload_n hx hb dX6_flicker_56 rfl (lv_at hl 1 rfl) ?_
            refine gf_21_15 X hW (by decide) mw_962 dX6_flicker_57 ?_
            refine lv_iload_n hx hb dX6_flicker_60 rfl (lv_at hl 3 rfl) ?_
            obtain ⟨b10, hf⟩ := chk_ex hf
            refine r_iald X hW 31 0 (by decide) (by decide) rfl b10 dX6_flicker_61 ?_
            refine lv_aload_n hx hb dX6_flicker_62 rfl (lv_at hl 1 rfl) ?_
            refine gf_21_16 X hW (by decide) mw_963 dX6_flicker_63 ?_
            refine lv_iload_n hx hb dX6_flicker_66 rfl (lv_at hl 3 rfl) ?_
            obtain ⟨b11, hf⟩ := chk_ex hf
            refine r_iald X hW 32 0 (by decide) (by decide) rfl b11 dX6_flicker_67 ?_
            refine lv_isub hx hb dX6_flicker_68 ?_
            refine lv_goto (tgt := 73) hx hb dX6_flicker_69 (by decide) ?_
            exact P_73 _ _ _ _ _ hW (lv_sub hl [1, 3] rfl) hf
      intro x1 x2 H locs ls hW hl hf
      rw [lX6_flicker_4_s] at hf
      refine lv_iload_n hx hb dX6_flicker_4 rfl (lv_at hl 2 rfl) ?_
      refine lv_bipush (v := 48) hx hb dX6_flicker_5 (by decide) ?_
      refine lv_icmp_ge (tgt := 80) hx hb dX6_flicker_7 (by decide) (fun c7 => ?_) (fun c7 => ?_)
      · replace hf := ite_t hf c7
        refine lv_iload_n hx hb dX6_flicker_80 rfl (lv_at hl 1 rfl) ?_
        exact e_i X hr hW (someinj hf) dX6_flicker_81
      · replace hf := ite_f hf c7
        refine lv_aload_n hx hb dX6_flicker_10 rfl (lv_at hl 0 rfl) ?_
        refine lv_iload_n hx hb dX6_flicker_11 rfl (lv_at hl 2 rfl) ?_
        refine lv_bipush (v := 8) hx hb dX6_flicker_12 (by decide) ?_
        obtain ⟨b1, hf⟩ := chk_ex hf
        refine lv_idiv hx hb dX6_flicker_14 b1 ?_
        obtain ⟨r3, e2, hf⟩ := bnd_ex hf
        refine k_i X hW (k_V (As := [.int (x2 / 8)]) (rest := []) X hW hml hl.1 (c_X6_works l g hDW  _ mm _ e2) (r_recv X hW 21 0 (by decide) (by decide) rfl rfl) ⟨mw_1058, kw_X6_works⟩ ⟨⟨rfl, rfl⟩, ko_X6_works, ⟨Nat.le_of_ble_eq_true rfl, Nat.le_of_ble_eq_true rfl⟩⟩ rfl rfl (Nat.le_of_ble_eq_true rfl) dX6_flicker_15 ⟨Nat.le_of_ble_eq_true rfl, Nat.le_of_ble_eq_true rfl⟩) (fun H locs hW => ?_)
        refine lv_iload_n hx hb dX6_flicker_18 rfl (lv_at hl 2 rfl) ?_
        refine lv_bipush (v := 8) hx hb dX6_flicker_19 (by decide) ?_
        obtain ⟨b5, hf⟩ := chk_ex hf
        refine r_irem hx hb dX6_flicker_21 b5 ?_
        refine lv_ishr hx hb dX6_flicker_22 ?_
        refine lv_iconst (v := 1) hx hb dX6_flicker_23 (by decide) ?_
        refine lv_iand hx hb dX6_flicker_24 ?_
        refine lv_iconst (v := 1) hx hb dX6_flicker_25 (by decide) ?_
        refine lv_icmp_ne (tgt := 33) hx hb dX6_flicker_26 (by decide) (fun c6 => ?_) (fun c6 => ?_)
        · replace hf := ite_f hf c6
          refine lv_iconst (v := 0) hx hb dX6_flicker_33 (by decide) ?_
          exact P_34 _ _ _ _ _ _ hW (lv_sub hl [0, 1, 2] rfl) hf
        · replace hf := ite_t hf c6
          refine lv_iconst (v := 1) hx hb dX6_flicker_29 (by decide) ?_
          refine lv_goto (tgt := 34) hx hb dX6_flicker_30 (by decide) ?_
          exact P_34 _ _ _ _ _ _ hW (lv_sub hl [0, 1, 2] rfl) hf
  unfold fX6_flicker at hf
  refine lv_iconst (v := 0) hx hb dX6_flicker_0 (by decide) ?_
  refine lv_istore_n (lv' := [(1, .int 0), (0, .ref (ad g 21 0))]) hx hb dX6_flicker_1 rfl hl (by decide) rfl (fun ls hl => ?_)
  refine lv_iconst (v := 0) hx hb dX6_flicker_2 (by decide) ?_
  refine lv_istore_n (lv' := [(2, .int 0), (1, .int 0), (0, .ref (ad g 21 0))]) hx hb dX6_flicker_3 rfl hl (by decide) rfl (fun ls hl => ?_)
  exact P_4 _ _ _ _ _ _ hW (lv_sub hl [2, 1, 0] rfl) hf
set_option maxRecDepth 100000 in
set_option maxHeartbeats 4000000 in
theorem c_X6_tellsCount (l : Launch) (g : gG) (hDW : DW g) (x1 : Int32) (mm : gM) (r0 : Int32) (hf : fX6_tellsCount x1 mm = some r0) : Met l yX6_tellsCount (Cond.code yX6_tellsCount cX6_tellsCount 2 (some .int) :: ALLW) rm_X6_tellsCount (CPre g mm [.ref (ad g 21 0), .int x1]) (CI g mm r0) 0 0 (gA g) := by
  refine Met.ofW (cc := cX6_tellsCount) (maxL := 2) (ret := (some .int)) (by decide) rfl ?_
  intro p e s m args below meth c s₁ B hml hv
  obtain ⟨ha, hFx, hP0, hlo⟩ := hv
  have X : Cx g p s m args c meth RX6 cX6_tellsCount := Cx_of hDW hFx hlo B
  have hx := X.1
  have hb := X.2.1
  have hr := B.returns
  have hlocks := X.2.2.2.2.2.2.2
  have hW : Wd g mm s s.heap [] := ⟨hP0, va_S.rf⟩
  rw [ha, lg_entry_eq]
  have hl := lv_entry ([.ref (ad g 21 0), .int x1] : List Value) (n := 2) (Nat.le_of_ble_eq_true rfl)
  generalize (lg_sl ([.ref (ad g 21 0), .int x1] : List Value) ++ List.replicate (2 - (lg_sl ([.ref (ad g 21 0), .int x1] : List Value)).length) Slot.unset).toArray = ls at hl ⊢
  have hl : lv_has ls 2 [(0, .ref (ad g 21 0)), (1, .int x1)] := hl
  rw [← ha]
  show W p l e rm_X6_tellsCount s m args below meth c s.heap [] 0 0 (MQ below (CI g mm r0) args s 0 0 (gA g)) (F0 m 0 ls [])
  unfold fX6_tellsCount at hf
  refine lv_iload_n hx hb dX6_tellsCount_0 rfl (lv_at hl 1 rfl) ?_
  by_cases c2 : x1 = 0
  · replace hf := ite_t hf c2
    refine lv_tableIn (off := 63) (tgt := 64) hx hb dX6_tellsCount_1 (by rw [c2]; decide) (by rw [c2]; decide) (by rw [c2]; rfl) (by decide) ?_
    refine lv_aload_n hx hb dX6_tellsCount_64 rfl (lv_at hl 0 rfl) ?_
    refine gf_21_1 X hW (by decide) mw_948 dX6_tellsCount_65 ?_
    refine lv_iconst (v := 5) hx hb dX6_tellsCount_68 (by decide) ?_
    obtain ⟨b1, hf⟩ := chk_ex hf
    refine r_iald X hW 22 0 (by decide) (by decide) rfl b1 dX6_tellsCount_69 ?_
    exact e_i X hr hW (someinj hf) dX6_tellsCount_70
  · replace hf := ite_f hf c2
    by_cases c6 : x1 = 1
    · replace hf := ite_t hf c6
      refine lv_tableIn (off := 70) (tgt := 71) hx hb dX6_tellsCount_1 (by rw [c6]; decide) (by rw [c6]; decide) (by rw [c6]; rfl) (by decide) ?_
      refine lv_aload_n hx hb dX6_tellsCount_71 rfl (lv_at hl 0 rfl) ?_
      obtain ⟨r4, e3, hf⟩ := bnd_ex hf
      refine k_i X hW (k_V (As := []) (rest := []) X hW hml hl.1 (c_X6_roundTicks l g hDW   mm _ e3) (r_recv X hW 21 0 (by decide) (by decide) rfl rfl) ⟨mw_1088, kw_X6_roundTicks⟩ ⟨⟨rfl, rfl⟩, ko_X6_roundTicks, ⟨Nat.le_of_ble_eq_true rfl, Nat.le_of_ble_eq_true rfl⟩⟩ rfl rfl (Nat.le_of_ble_eq_true rfl) dX6_tellsCount_72 ⟨Nat.le_of_ble_eq_true rfl, Nat.le_of_ble_eq_true rfl⟩) (fun H locs hW => ?_)
      exact e_i X hr hW (someinj hf) dX6_tellsCount_75
    · replace hf := ite_f hf c6
      by_cases c8 : x1 = 2
      · replace hf := ite_t hf c8
        refine lv_tableIn (off := 75) (tgt := 76) hx hb dX6_tellsCount_1 (by rw [c8]; decide) (by rw [c8]; decide) (by rw [c8]; rfl) (by decide) ?_
        refine lv_aload_n hx hb dX6_tellsCount_76 rfl (lv_at hl 0 rfl) ?_
        refine gf_21_1 X hW (by decide) mw_948 dX6_tellsCount_77 ?_
        refine lv_bipush (v := 6) hx hb dX6_tellsCount_80 (by decide) ?_
        obtain ⟨b7, hf⟩ := chk_ex hf
        refine r_iald X hW 22 0 (by decide) (by decide) rfl b7 dX6_tellsCount_82 ?_
        exact e_i X hr hW (someinj hf) dX6_tellsCount_83
      · replace hf := ite_f hf c8
        by_cases c12 : x1 = 3
        · replace hf := ite_t hf c12
          refine lv_tableIn (off := 83) (tgt := 84) hx hb dX6_tellsCount_1 (by rw [c12]; decide) (by rw [c12]; decide) (by rw [c12]; rfl) (by decide) ?_
          refine lv_aload_n hx hb dX6_tellsCount_84 rfl (lv_at hl 0 rfl) ?_
          obtain ⟨r10, e9, hf⟩ := bnd_ex hf
          refine k_i X hW (k_V (As := []) (rest := []) X hW hml hl.1 (c_X6_nextLit l g hDW   mm _ e9) (r_recv X hW 21 0 (by decide) (by decide) rfl rfl) ⟨mw_1223, kw_X6_nextLit⟩ ⟨⟨rfl, rfl⟩, ko_X6_nextLit, ⟨Nat.le_of_ble_eq_true rfl, Nat.le_of_ble_eq_true rfl⟩⟩ rfl rfl (Nat.le_of_ble_eq_true rfl) dX6_tellsCount_85 ⟨Nat.le_of_ble_eq_true rfl, Nat.le_of_ble_eq_true rfl⟩) (fun H locs hW => ?_)
          exact e_i X hr hW (someinj hf) dX6_tellsCount_88
        · replace hf := ite_f hf c12
          by_cases c14 : x1 = 4
          · replace hf := ite_t hf c14
            refine lv_tableIn (off := 88) (tgt := 89) hx hb dX6_tellsCount_1 (by rw [c14]; decide) (by rw [c14]; decide) (by rw [c14]; rfl) (by decide) ?_
            refine lv_aload_n hx hb dX6_tellsCount_89 rfl (lv_at hl 0 rfl) ?_
            refine gf_21_1 X hW (by decide) mw_948 dX6_tellsCount_90 ?_
            refine lv_bipush (v := 7) hx hb dX6_tellsCount_93 (by decide) ?_
            obtain ⟨b13, hf⟩ := chk_ex hf
            refine r_iald X hW 22 0 (by decide) (by decide) rfl b13 dX6_tellsCount_95 ?_
            exact e_i X hr hW (someinj hf) dX6_tellsCount_96
          · replace hf := ite_f hf c14
            by_cases c18 : x1 = 5
            · replace hf := ite_t hf c18
              refine lv_tableIn (off := 96) (tgt := 97) hx hb dX6_tellsCount_1 (by rw [c18]; decide) (by rw [c18]; decide) (by rw [c18]; rfl) (by decide) ?_
              refine lv_aload_n hx hb dX6_tellsCount_97 rfl (lv_at hl 0 rfl) ?_
              obtain ⟨r16, e15, hf⟩ := bnd_ex hf
              refine k_i X hW (k_V (As := []) (rest := []) X hW hml hl.1 (c_X6_allLight l g hDW   mm _ e15) (r_recv X hW 21 0 (by decide) (by decide) rfl rfl) ⟨mw_1227, kw_X6_allLight⟩ ⟨⟨rfl, rfl⟩, ko_X6_allLight, ⟨Nat.le_of_ble_eq_true rfl, Nat.le_of_ble_eq_true rfl⟩⟩ rfl rfl (Nat.le_of_ble_eq_true rfl) dX6_tellsCount_98 ⟨Nat.le_of_ble_eq_true rfl, Nat.le_of_ble_eq_true rfl⟩) (fun H locs hW => ?_)
              exact e_i X hr hW (someinj hf) dX6_tellsCount_101
            · replace hf := ite_f hf c18
              by_cases c22 : x1 = 6
              · replace hf := ite_t hf c22
                refine lv_tableIn (off := 96) (tgt := 97) hx hb dX6_tellsCount_1 (by rw [c22]; decide) (by rw [c22]; decide) (by rw [c22]; rfl) (by decide) ?_
                refine lv_aload_n hx hb dX6_tellsCount_97 rfl (lv_at hl 0 rfl) ?_
                obtain ⟨r20, e19, hf⟩ := bnd_ex hf
                refine k_i X hW (k_V (As := []) (rest := []) X hW hml hl.1 (c_X6_allLight l g hDW   mm _ e19) (r_recv X hW 21 0 (by decide) (by decide) rfl rfl) ⟨mw_1227, kw_X6_allLight⟩ ⟨⟨rfl, rfl⟩, ko_X6_allLight, ⟨Nat.le_of_ble_eq_true rfl, Nat.le_of_ble_eq_true rfl⟩⟩ rfl rfl (Nat.le_of_ble_eq_true rfl) dX6_tellsCount_98 ⟨Nat.le_of_ble_eq_true rfl, Nat.le_of_ble_eq_true rfl⟩) (fun H locs hW => ?_)
                exact e_i X hr hW (someinj hf) dX6_tellsCount_101
              · replace hf := ite_f hf c22
                by_cases c24 : x1 = 7
                · replace hf := ite_t hf c24
                  refine lv_tableIn (off := 101) (tgt := 102) hx hb dX6_tellsCount_1 (by rw [c24]; decide) (by rw [c24]; decide) (by rw [c24]; rfl) (by decide) ?_
                  refine lv_aload_n hx hb dX6_tellsCount_102 rfl (lv_at hl 0 rfl) ?_
                  refine gf_21_1 X hW (by decide) mw_948 dX6_tellsCount_103 ?_
                  refine lv_iconst (v := 4) hx hb dX6_tellsCount_106 (by decide) ?_
                  obtain ⟨b23, hf⟩ := chk_ex hf
                  refine r_iald X hW 22 0 (by decide) (by decide) rfl b23 dX6_tellsCount_107 ?_
                  exact e_i X hr hW (someinj hf) dX6_tellsCount_108
                · replace hf := ite_f hf c24
                  by_cases c28 : x1 = 8
                  · replace hf := ite_t hf c28
                    refine lv_tableIn (off := 108) (tgt := 109) hx hb dX6_tellsCount_1 (by rw [c28]; decide) (by rw [c28]; decide) (by rw [c28]; rfl) (by decide) ?_
                    refine lv_aload_n hx hb dX6_tellsCount_109 rfl (lv_at hl 0 rfl) ?_
                    obtain ⟨r26, e25, hf⟩ := bnd_ex hf
                    refine k_i X hW (k_V (As := []) (rest := []) X hW hml hl.1 (c_X6_workingSlots l g hDW   mm _ e25) (r_recv X hW 21 0 (by decide) (by decide) rfl rfl) ⟨mw_1054, kw_X6_workingSlots⟩ ⟨⟨rfl, rfl⟩, ko_X6_workingSlots, ⟨Nat.le_of_ble_eq_true rfl, Nat.le_of_ble_eq_true rfl⟩⟩ rfl rfl (Nat.le_of_ble_eq_true rfl) dX6_tellsCount_110 ⟨Nat.le_of_ble_eq_true rfl, Nat.le_of_ble_eq_true rfl⟩) (fun H locs hW => ?_)
                    exact e_i X hr hW (someinj hf) dX6_tellsCount_113
                  · replace hf := ite_f hf c28
                    by_cases c32 : x1 = 9
                    · replace hf := ite_t hf c32
                      refine lv_tableIn (off := 113) (tgt := 114) hx hb dX6_tellsCount_1 (by rw [c32]; decide) (by rw [c32]; decide) (by rw [c32]; rfl) (by decide) ?_
                      refine lv_aload_n hx hb dX6_tellsCount_114 rfl (lv_at hl 0 rfl) ?_
                      obtain ⟨r30, e29, hf⟩ := bnd_ex hf
                      refine k_i X hW (k_V (As := []) (rest := []) X hW hml hl.1 (c_X6_readWell l g hDW   mm _ e29) (r_recv X hW 21 0 (by decide) (by decide) rfl rfl) ⟨mw_1231, kw_X6_readWell⟩ ⟨⟨rfl, rfl⟩, ko_X6_readWell, ⟨Nat.le_of_ble_eq_true rfl, Nat.le_of_ble_eq_true rfl⟩⟩ rfl rfl (Nat.le_of_ble_eq_true rfl) dX6_tellsCount_115 ⟨Nat.le_of_ble_eq_true rfl, Nat.le_of_ble_eq_true rfl⟩) (fun H locs hW => ?_)
                      exact e_i X hr hW (someinj hf) dX6_tellsCount_118
                    · replace hf := ite_f hf c32
                      by_cases c36 : x1 = 10
                      · replace hf := ite_t hf c36
                        refine lv_tableIn (off := 118) (tgt := 119) hx hb dX6_tellsCount_1 (by rw [c36]; decide) (by rw [c36]; decide) (by rw [c36]; rfl) (by decide) ?_
                        refine lv_aload_n hx hb dX6_tellsCount_119 rfl (lv_at hl 0 rfl) ?_
                        obtain ⟨r34, e33, hf⟩ := bnd_ex hf
                        refine k_i X hW (k_V (As := []) (rest := []) X hW hml hl.1 (c_X6_apart l g hDW   mm _ e33) (r_recv X hW 21 0 (by decide) (by decide) rfl rfl) ⟨mw_1235, kw_X6_apart⟩ ⟨⟨rfl, rfl⟩, ko_X6_apart, ⟨Nat.le_of_ble_eq_true rfl, Nat.le_of_ble_eq_true rfl⟩⟩ rfl rfl (Nat.le_of_ble_eq_true rfl) dX6_tellsCount_120 ⟨Nat.le_of_ble_eq_true rfl, Nat.le_of_ble_eq_true rfl⟩) (fun H locs hW => ?_)
                        exact e_i X hr hW (someinj hf) dX6_tellsCount_123
                      · replace hf := ite_f hf c36
                        by_cases c40 : x1 = 11
                        · replace hf := ite_t hf c40
                          refine lv_tableIn (off := 123) (tgt := 124) hx hb dX6_tellsCount_1 (by rw [c40]; decide) (by rw [c40]; decide) (by rw [c40]; rfl) (by decide) ?_
                          refine lv_aload_n hx hb dX6_tellsCount_124 rfl (lv_at hl 0 rfl) ?_
                          obtain ⟨r38, e37, hf⟩ := bnd_ex hf
                          refine k_i X hW (k_V (As := []) (rest := []) X hW hml hl.1 (c_X6_flicker l g hDW   mm _ e37) (r_recv X hW 21 0 (by decide) (by decide) rfl rfl) ⟨mw_1239, kw_X6_flicker⟩ ⟨⟨rfl, rfl⟩, ko_X6_flicker, ⟨Nat.le_of_ble_eq_true rfl, Nat.le_of_ble_eq_true rfl⟩⟩ rfl rfl (Nat.le_of_ble_eq_true rfl) dX6_tellsCount_125 ⟨Nat.le_of_ble_eq_true rfl, Nat.le_of_ble_eq_true rfl⟩) (fun H locs hW => ?_)
                          exact e_i X hr hW (someinj hf) dX6_tellsCount_128
                        · replace hf := ite_f hf c40
                          refine lv_tableOut (tgt := 129) hx hb dX6_tellsCount_1 (tb_out0_12 c2 c6 c8 c12 c14 c18 c22 c24 c28 c32 c36 c40) (by decide) ?_
                          refine lv_aload_n hx hb dX6_tellsCount_129 rfl (lv_at hl 0 rfl) ?_
                          refine gf_21_3 X hW (by decide) mw_950 dX6_tellsCount_130 ?_
                          exact e_i X hr hW (someinj hf) dX6_tellsCount_133
set_option maxRecDepth 100000 in
set_option maxHeartbeats 4000000 in
theorem c_X6_count (l : Launch) (g : gG) (hDW : DW g) (x1 : Int32) (mm : gM) (r0 : Int32) (mZ : gM) (hf : fX6_count x1 mm = some (r0, mZ)) : Met l yX6_count (Cond.code yX6_count cX6_count 2 (some .int) :: ALLW) rm_X6_count (CPre g mm [.ref (ad g 21 0), .int x1]) (CI g mZ r0) 0 0 (gA g) := by
  refine Met.ofW (cc := cX6_count) (maxL := 2) (ret := (some .int)) (by decide) rfl ?_
  intro p e s m args below meth c s₁ B hml hv
  obtain ⟨ha, hFx, hP0, hlo⟩ := hv
  have X : Cx g p s m args c meth RX6 cX6_count := Cx_of hDW hFx hlo B
  have hx := X.1
  have hb := X.2.1
  have hr := B.returns
  have hlocks := X.2.2.2.2.2.2.2
  have hW : Wd g mm s s.heap [] := ⟨hP0, va_S.rf⟩
  rw [ha, lg_entry_eq]
  have hl := lv_entry ([.ref (ad g 21 0), .int x1] : List Value) (n := 2) (Nat.le_of_ble_eq_true rfl)
  generalize (lg_sl ([.ref (ad g 21 0), .int x1] : List Value) ++ List.replicate (2 - (lg_sl ([.ref (ad g 21 0), .int x1] : List Value)).length) Slot.unset).toArray = ls at hl ⊢
  have hl : lv_has ls 2 [(0, .ref (ad g 21 0)), (1, .int x1)] := hl
  rw [← ha]
  show W p l e rm_X6_count s m args below meth c s.heap [] 0 0 (MQ below (CI g mZ r0) args s 0 0 (gA g)) (F0 m 0 ls [])
  unfold fX6_count at hf
  refine lv_aload_n hx hb dX6_count_0 rfl (lv_at hl 0 rfl) ?_
  refine lv_iconst (v := 0) hx hb dX6_count_1 (by decide) ?_
  obtain ⟨m1, ex, hf⟩ := wth_ex hf
  refine pf_21_0 X hW (by decide) mw_947 dX6_count_2 (fun H locs hW => ?_)
  replace hW := hW.same ex
  clear ex
  refine lv_aload_n hx hb dX6_count_5 rfl (lv_at hl 0 rfl) ?_
  obtain ⟨m4, e2, hf⟩ := bnd_ex hf
  refine k_v X hW (k_V (As := []) (rest := []) X hW hml hl.1 (c_X6_views l g hDW   m1 _ e2) (r_recv X hW 21 0 (by decide) (by decide) rfl rfl) ⟨mw_1160, kw_X6_views⟩ ⟨⟨rfl, rfl⟩, ko_X6_views, ⟨Nat.le_of_ble_eq_true rfl, Nat.le_of_ble_eq_true rfl⟩⟩ rfl rfl (Nat.le_of_ble_eq_true rfl) dX6_count_6 ⟨Nat.le_of_ble_eq_true rfl, Nat.le_of_ble_eq_true rfl⟩) (fun H locs hW => ?_)
  refine lv_iload_n hx hb dX6_count_9 rfl (lv_at hl 1 rfl) ?_
  refine lv_iconst (v := 0) hx hb dX6_count_10 (by decide) ?_
  refine lv_bipush (v := 12) hx hb dX6_count_11 (by decide) ?_
  obtain ⟨r6, e5, hf⟩ := bnd_ex hf
  refine k_i X hW (k_S (As := [.int x1, .int 0, .int 12]) (rest := []) X hW hml hl.1 (c_X6_in l g hDW  _ _ _ m4 _ e5) ⟨mw_1016, kw_X6_in⟩ ⟨⟨rfl, rfl⟩, ko_X6_in, ⟨Nat.le_of_ble_eq_true rfl, Nat.le_of_ble_eq_true rfl⟩⟩ rfl rfl (Nat.le_of_ble_eq_true rfl) dX6_count_13 ⟨Nat.le_of_ble_eq_true rfl, Nat.le_of_ble_eq_true rfl⟩) (fun H locs hW => ?_)
  refine lv_if_eq (tgt := 27) hx hb dX6_count_16 (by decide) (fun c14 => ?_) (fun c14 => ?_)
  · replace hf := ite_t hf c14
    refine lv_aload_n hx hb dX6_count_27 rfl (lv_at hl 0 rfl) ?_
    refine lv_iconst (v := 1) hx hb dX6_count_28 (by decide) ?_
    obtain ⟨r9, m10, e8, hf⟩ := bn2_ex hf
    refine k_i X hW (k_V (As := [.int 1]) (rest := []) X hW hml hl.1 (c_X6_fails l g hDW  _ m4 _ _ e8) (r_recv X hW 21 0 (by decide) (by decide) rfl rfl) ⟨mw_1019, kw_X6_fails⟩ ⟨⟨rfl, rfl⟩, ko_X6_fails, ⟨Nat.le_of_ble_eq_true rfl, Nat.le_of_ble_eq_true rfl⟩⟩ rfl rfl (Nat.le_of_ble_eq_true rfl) dX6_count_29 ⟨Nat.le_of_ble_eq_true rfl, Nat.le_of_ble_eq_true rfl⟩) (fun H locs hW => ?_)
    obtain ⟨hf, hm⟩ := prinj hf
    replace hW := hW.same hm.symm
    exact e_i X hr hW (hf) dX6_count_32
  · replace hf := ite_f hf c14
    refine lv_aload_n hx hb dX6_count_19 rfl (lv_at hl 0 rfl) ?_
    refine lv_iload_n hx hb dX6_count_20 rfl (lv_at hl 1 rfl) ?_
    obtain ⟨r12, e11, hf⟩ := bnd_ex hf
    refine k_i X hW (k_V (As := [.int x1]) (rest := []) X hW hml hl.1 (c_X6_tellsCount l g hDW  _ m4 _ e11) (r_recv X hW 21 0 (by decide) (by decide) rfl rfl) ⟨mw_1219, kw_X6_tellsCount⟩ ⟨⟨rfl, rfl⟩, ko_X6_tellsCount, ⟨Nat.le_of_ble_eq_true rfl, Nat.le_of_ble_eq_true rfl⟩⟩ rfl rfl (Nat.le_of_ble_eq_true rfl) dX6_count_21 ⟨Nat.le_of_ble_eq_true rfl, Nat.le_of_ble_eq_true rfl⟩) (fun H locs hW => ?_)
    refine lv_goto (tgt := 32) hx hb dX6_count_24 (by decide) ?_
    obtain ⟨hf, hm⟩ := prinj hf
    replace hW := hW.same hm.symm
    exact e_i X hr hW (hf) dX6_count_32
set_option maxRecDepth 100000 in
set_option maxHeartbeats 4000000 in
theorem c_X6_setting (l : Launch) (g : gG) (hDW : DW g) (x1 : Int32) (mm : gM) (r0 : Int32) (mZ : gM) (hf : fX6_setting x1 mm = some (r0, mZ)) : Met l yX6_setting (Cond.code yX6_setting cX6_setting 2 (some .int) :: ALLW) rm_X6_setting (CPre g mm [.ref (ad g 21 0), .int x1]) (CI g mZ r0) 0 0 (gA g) := by
  refine Met.ofW (cc := cX6_setting) (maxL := 2) (ret := (some .int)) (by decide) rfl ?_
  intro p e s m args below meth c s₁ B hml hv
  obtain ⟨ha, hFx, hP0, hlo⟩ := hv
  have X : Cx g p s m args c meth RX6 cX6_setting := Cx_of hDW hFx hlo B
  have hx := X.1
  have hb := X.2.1
  have hr := B.returns
  have hlocks := X.2.2.2.2.2.2.2
  have hW : Wd g mm s s.heap [] := ⟨hP0, va_S.rf⟩
  rw [ha, lg_entry_eq]
  have hl := lv_entry ([.ref (ad g 21 0), .int x1] : List Value) (n := 2) (Nat.le_of_ble_eq_true rfl)
  generalize (lg_sl ([.ref (ad g 21 0), .int x1] : List Value) ++ List.replicate (2 - (lg_sl ([.ref (ad g 21 0), .int x1] : List Value)).length) Slot.unset).toArray = ls at hl ⊢
  have hl : lv_has ls 2 [(0, .ref (ad g 21 0)), (1, .int x1)] := hl
  rw [← ha]
  show W p l e rm_X6_setting s m args below meth c s.heap [] 0 0 (MQ below (CI g mZ r0) args s 0 0 (gA g)) (F0 m 0 ls [])
  unfold fX6_setting at hf
  refine lv_aload_n hx hb dX6_setting_0 rfl (lv_at hl 0 rfl) ?_
  refine lv_iconst (v := 0) hx hb dX6_setting_1 (by decide) ?_
  obtain ⟨m1, ex, hf⟩ := wth_ex hf
  refine pf_21_0 X hW (by decide) mw_947 dX6_setting_2 (fun H locs hW => ?_)
  replace hW := hW.same ex
  clear ex
  refine lv_iload_n hx hb dX6_setting_5 rfl (lv_at hl 1 rfl) ?_
  refine lv_iconst (v := 0) hx hb dX6_setting_6 (by decide) ?_
  refine lv_iconst (v := 3) hx hb dX6_setting_7 (by decide) ?_
  obtain ⟨r3, e2, hf⟩ := bnd_ex hf
  refine k_i X hW (k_S (As := [.int x1, .int 0, .int 3]) (rest := []) X hW hml hl.1 (c_X6_in l g hDW  _ _ _ m1 _ e2) ⟨mw_1016, kw_X6_in⟩ ⟨⟨rfl, rfl⟩, ko_X6_in, ⟨Nat.le_of_ble_eq_true rfl, Nat.le_of_ble_eq_true rfl⟩⟩ rfl rfl (Nat.le_of_ble_eq_true rfl) dX6_setting_8 ⟨Nat.le_of_ble_eq_true rfl, Nat.le_of_ble_eq_true rfl⟩) (fun H locs hW => ?_)
  refine lv_if_eq (tgt := 23) hx hb dX6_setting_11 (by decide) (fun c9 => ?_) (fun c9 => ?_)
  · replace hf := ite_t hf c9
    refine lv_aload_n hx hb dX6_setting_23 rfl (lv_at hl 0 rfl) ?_
    refine lv_iconst (v := 1) hx hb dX6_setting_24 (by decide) ?_
    obtain ⟨r6, m7, e5, hf⟩ := bn2_ex hf
    refine k_i X hW (k_V (As := [.int 1]) (rest := []) X hW hml hl.1 (c_X6_fails l g hDW  _ m1 _ _ e5) (r_recv X hW 21 0 (by decide) (by decide) rfl rfl) ⟨mw_1019, kw_X6_fails⟩ ⟨⟨rfl, rfl⟩, ko_X6_fails, ⟨Nat.le_of_ble_eq_true rfl, Nat.le_of_ble_eq_true rfl⟩⟩ rfl rfl (Nat.le_of_ble_eq_true rfl) dX6_setting_25 ⟨Nat.le_of_ble_eq_true rfl, Nat.le_of_ble_eq_true rfl⟩) (fun H locs hW => ?_)
    obtain ⟨hf, hm⟩ := prinj hf
    replace hW := hW.same hm.symm
    exact e_i X hr hW (hf) dX6_setting_28
  · replace hf := ite_f hf c9
    refine lv_aload_n hx hb dX6_setting_14 rfl (lv_at hl 0 rfl) ?_
    refine gf_21_1 X hW (by decide) mw_948 dX6_setting_15 ?_
    refine lv_iload_n hx hb dX6_setting_18 rfl (lv_at hl 1 rfl) ?_
    obtain ⟨b8, hf⟩ := chk_ex hf
    refine r_iald X hW 22 0 (by decide) (by decide) rfl b8 dX6_setting_19 ?_
    refine lv_goto (tgt := 28) hx hb dX6_setting_20 (by decide) ?_
    obtain ⟨hf, hm⟩ := prinj hf
    replace hW := hW.same hm.symm
    exact e_i X hr hW (hf) dX6_setting_28
set_option maxRecDepth 100000 in
set_option maxHeartbeats 4000000 in
theorem c_X6_could (l : Launch) (g : gG) (hDW : DW g) (x1 : Int32) (x2 : Int32) (mm : gM) (r0 : Int32) (hf : fX6_could x1 x2 mm = some r0) : Met l yX6_could (Cond.code yX6_could cX6_could 8 (some .int) :: ALLW) rm_X6_could (CPre g mm [.ref (ad g 21 0), .int x1, .int x2]) (CI g mm r0) 0 0 (gA g) := by
  refine Met.ofW (cc := cX6_could) (maxL := 8) (ret := (some .int)) (by decide) rfl ?_
  intro p e s m args below meth c s₁ B hml hv
  obtain ⟨ha, hFx, hP0, hlo⟩ := hv
  have X : Cx g p s m args c meth RX6 cX6_could := Cx_of hDW hFx hlo B
  have hx := X.1
  have hb := X.2.1
  have hr := B.returns
  have hlocks := X.2.2.2.2.2.2.2
  have hW : Wd g mm s s.heap [] := ⟨hP0, va_S.rf⟩
  rw [ha, lg_entry_eq]
  have hl := lv_entry ([.ref (ad g 21 0), .int x1, .int x2] : List Value) (n := 8) (Nat.le_of_ble_eq_true rfl)
  generalize (lg_sl ([.ref (ad g 21 0), .int x1, .int x2] : List Value) ++ List.replicate (8 - (lg_sl ([.ref (ad g 21 0), .int x1, .int x2] : List Value)).length) Slot.unset).toArray = ls at hl ⊢
  have hl : lv_has ls 8 [(0, .ref (ad g 21 0)), (1, .int x1), (2, .int x2)] := hl
  rw [← ha]
  show W p l e rm_X6_could s m args below meth c s.heap [] 0 0 (MQ below (CI g mm r0) args s 0 0 (gA g)) (F0 m 0 ls [])
  have P_86 : ∀ (x2 : Int32) (x4 : Int32) (x5 : Int32) (H : Heap) (locs : List Loc) (ls : Array Slot), Wd g mm s H locs → lv_has ls 8 [(2, .int x2), (4, .int x4), (5, .int x5)] → jX6_could_86 mm x2 x4 x5 = some r0 → W p l e rm_X6_could s m args below meth c H locs 0 0 (MQ below (CI g mm r0) args s 0 0 (gA g)) (F0 m 86 ls []) := by
    intro x2 x4 x5 H locs ls hW hl hf
    unfold jX6_could_86 at hf
    refine lv_iload_n hx hb dX6_could_86 rfl (lv_at hl 0 rfl) ?_
    refine lv_if_ne (tgt := 95) hx hb dX6_could_87 (by decide) (fun c18 => ?_) (fun c18 => ?_)
    · replace hf := ite_f hf c18
      refine lv_iload hx hb dX6_could_95 (lv_at hl 2 rfl) ?_
      exact e_i X hr hW (someinj hf) dX6_could_97
    · replace hf := ite_t hf c18
      refine lv_iload hx hb dX6_could_90 (lv_at hl 1 rfl) ?_
      refine lv_goto (tgt := 97) hx hb dX6_could_92 (by decide) ?_
      exact e_i X hr hW (someinj hf) dX6_could_97
  have P_25 : ∀ (n25 : Nat) (x1 : Int32) (x2 : Int32) (x3 : Int32) (x4 : Int32) (x5 : Int32) (x6 : Int32) (H : Heap) (locs : List Loc) (ls : Array Slot), Wd g mm s H locs → lv_has ls 8 [(0, .ref (ad g 21 0)), (1, .int x1), (2, .int x2), (3, .int x3), (4, .int x4), (5, .int x5), (6, .int x6)] → lX6_could_25 mm n25 x1 x2 x3 x4 x5 x6 = some r0 → W p l e rm_X6_could s m args below meth c H locs 0 0 (MQ below (CI g mm r0) args s 0 0 (gA g)) (F0 m 25 ls []) := by
    intro n25
    induction n25 with
    | zero => intro x1 x2 x3 x4 x5 x6 H locs ls hW hl hf; exact (no_some hf).elim
    | succ n25 ih_25 =>
      have P_78 : ∀ (x1 : Int32) (x2 : Int32) (x3 : Int32) (x4 : Int32) (x6 : Int32) (s0 : Int32) (H : Heap) (locs : List Loc) (ls : Array Slot), Wd g mm s H locs → lv_has ls 8 [(0, .ref (ad g 21 0)), (1, .int x1), (2, .int x2), (3, .int x3), (4, .int x4), (6, .int x6)] → jX6_could_78 (lX6_could_25 mm n25) mm x1 x2 x3 x4 x6 s0 = some r0 → W p l e rm_X6_could s m args below meth c H locs 0 0 (MQ below (CI g mm r0) args s 0 0 (gA g)) (F0 m 78 ls [.int s0]) := by
        intro x1 x2 x3 x4 x6 s0 H locs ls hW hl hf
        unfold jX6_could_78 at hf
        refine lv_istore (lv' := [(5, .int s0), (0, .ref (ad g 21 0)), (1, .int x1), (2, .int x2), (3, .int x3), (4, .int x4), (6, .int x6)]) hx hb dX6_could_78 hl (by decide) rfl (fun ls hl => ?_)
        refine lv_iinc (v := x6 + (-1)) (lv' := [(6, .int (x6 + (-1))), (5, .int s0), (0, .ref (ad g 21 0)), (1, .int x1), (2, .int x2), (3, .int x3), (4, .int x4)]) hx hb dX6_could_80 hl (k := 6) rfl rfl (by decide) rfl (fun ls hl => ?_)
        refine lv_goto (tgt := 25) hx hb dX6_could_83 (by decide) ?_
        exact ih_25 _ _ _ _ _ _ _ _ _ hW (lv_sub hl [2, 3, 4, 5, 6, 1, 0] rfl) hf
      have P_63 : ∀ (x1 : Int32) (x2 : Int32) (x3 : Int32) (x5 : Int32) (x6 : Int32) (x7 : Int32) (s0 : Int32) (s1 : Int32) (H : Heap) (locs : List Loc) (ls : Array Slot), Wd g mm s H locs → lv_has ls 8 [(0, .ref (ad g 21 0)), (1, .int x1), (2, .int x2), (3, .int x3), (5, .int x5), (6, .int x6), (7, .int x7)] → jX6_could_63 (lX6_could_25 mm n25) mm x1 x2 x3 x5 x6 x7 s0 s1 = some r0 → W p l e rm_X6_could s m args below meth c H locs 0 0 (MQ below (CI g mm r0) args s 0 0 (gA g)) (F0 m 63 ls [.int s1, .int s0]) := by
        intro x1 x2 x3 x5 x6 x7 s0 s1 H locs ls hW hl hf
        unfold jX6_could_63 at hf
        refine lv_iadd hx hb dX6_could_63 ?_
        refine lv_istore (lv' := [(4, .int (s0 + s1)), (0, .ref (ad g 21 0)), (1, .int x1), (2, .int x2), (3, .int x3), (5, .int x5), (6, .int x6), (7, .int x7)]) hx hb dX6_could_64 hl (by decide) rfl (fun ls hl => ?_)
        refine lv_iload hx hb dX6_could_66 (lv_at hl 7 rfl) ?_
        refine lv_if_eq (tgt := 76) hx hb dX6_could_68 (by decide) (fun c20 => ?_) (fun c20 => ?_)
        · replace hf := ite_t hf c20
          refine lv_iload hx hb dX6_could_76 (lv_at hl 5 rfl) ?_
          exact P_78 _ _ _ _ _ _ _ _ _ hW (lv_sub hl [1, 2, 3, 4, 0, 6] rfl) hf
        · replace hf := ite_f hf c20
          refine lv_iload hx hb dX6_could_71 (lv_at hl 6 rfl) ?_
          refine lv_goto (tgt := 78) hx hb dX6_could_73 (by decide) ?_
          exact P_78 _ _ _ _ _ _ _ _ _ hW (lv_sub hl [1, 2, 3, 4, 0, 6] rfl) hf
      have P_49 : ∀ (x1 : Int32) (x2 : Int32) (x3 : Int32) (x4 : Int32) (x5 : Int32) (x6 : Int32) (s0 : Int32) (H : Heap) (locs : List Loc) (ls : Array Slot), Wd g mm s H locs → lv_has ls 8 [(0, .ref (ad g 21 0)), (1, .int x1), (2, .int x2), (3, .int x3), (4, .int x4), (5, .int x5), (6, .int x6)] → jX6_could_49 (lX6_could_25 mm n25) mm x1 x2 x3 x4 x5 x6 s0 = some r0 → W p l e rm_X6_could s m args below meth c H locs 0 0 (MQ below (CI g mm r0) args s 0 0 (gA g)) (F0 m 49 ls [.int s0]) := by
        intro x1 x2 x3 x4 x5 x6 s0 H locs ls hW hl hf
        unfold jX6_could_49 at hf
        refine lv_istore (lv' := [(7, .int s0), (0, .ref (ad g 21 0)), (1, .int x1), (2, .int x2), (3, .int x3), (4, .int x4), (5, .int x5), (6, .int x6)]) hx hb dX6_could_49 hl (by decide) rfl (fun ls hl => ?_)
        refine lv_iload hx hb dX6_could_51 (lv_at hl 5 rfl) ?_
        refine lv_iload hx hb dX6_could_53 (lv_at hl 0 rfl) ?_
        refine lv_if_eq (tgt := 62) hx hb dX6_could_55 (by decide) (fun c19 => ?_) (fun c19 => ?_)
        · replace hf := ite_t hf c19
          refine lv_iconst (v := 0) hx hb dX6_could_62 (by decide) ?_
          exact P_63 _ _ _ _ _ _ _ _ _ _ _ hW (lv_sub hl [1, 2, 3, 4, 6, 7, 0] rfl) hf
        · replace hf := ite_f hf c19
          refine lv_iconst (v := 1) hx hb dX6_could_58 (by decide) ?_
          refine lv_goto (tgt := 63) hx hb dX6_could_59 (by decide) ?_
          exact P_63 _ _ _ _ _ _ _ _ _ _ _ hW (lv_sub hl [1, 2, 3, 4, 6, 7, 0] rfl) hf
      intro x1 x2 x3 x4 x5 x6 H locs ls hW hl hf
      rw [lX6_could_25_s] at hf
      refine lv_iload hx hb dX6_could_25 (lv_at hl 6 rfl) ?_
      refine lv_if_lt (tgt := 86) hx hb dX6_could_27 (by decide) (fun c17 => ?_) (fun c17 => ?_)
      · replace hf := ite_t hf c17
        exact P_86 _ _ _ _ _ _ hW (lv_sub hl [2, 4, 5] rfl) hf
      · replace hf := ite_f hf c17
        refine lv_aload_n hx hb dX6_could_30 rfl (lv_at hl 0 rfl) ?_
        refine lv_iload_n hx hb dX6_could_31 rfl (lv_at hl 1 rfl) ?_
        refine lv_iload hx hb dX6_could_32 (lv_at hl 6 rfl) ?_
        obtain ⟨r11, e10, hf⟩ := bnd_ex hf
        refine k_i X hW (k_S (As := [.int x6]) (rest := [.int x1, .ref (ad g 21 0)]) X hW hml hl.1 (c_X6_segmentsOf l g hDW  _ mm _ e10) ⟨mw_1062, kw_X6_segmentsOf⟩ ⟨⟨rfl, rfl⟩, ko_X6_segmentsOf, ⟨Nat.le_of_ble_eq_true rfl, Nat.le_of_ble_eq_true rfl⟩⟩ rfl rfl (Nat.le_of_ble_eq_true rfl) dX6_could_34 ⟨Nat.le_of_ble_eq_true rfl, Nat.le_of_ble_eq_true rfl⟩) (fun H locs hW => ?_)
        obtain ⟨r14, e13, hf⟩ := bnd_ex hf
        refine k_i X hW (k_V (As := [.int x1, .int r11]) (rest := []) X hW hml hl.1 (c_X6_working l g hDW  _ _ mm _ e13) (r_recv X hW 21 0 (by decide) (by decide) rfl rfl) ⟨mw_1065, kw_X6_working⟩ ⟨⟨rfl, rfl⟩, ko_X6_working, ⟨Nat.le_of_ble_eq_true rfl, Nat.le_of_ble_eq_true rfl⟩⟩ rfl rfl (Nat.le_of_ble_eq_true rfl) dX6_could_37 ⟨Nat.le_of_ble_eq_true rfl, Nat.le_of_ble_eq_true rfl⟩) (fun H locs hW => ?_)
        refine lv_iload_n hx hb dX6_could_40 rfl (lv_at hl 3 rfl) ?_
        refine lv_icmp_ne (tgt := 48) hx hb dX6_could_41 (by decide) (fun c16 => ?_) (fun c16 => ?_)
        · replace hf := ite_f hf c16
          refine lv_iconst (v := 0) hx hb dX6_could_48 (by decide) ?_
          exact P_49 _ _ _ _ _ _ _ _ _ _ hW (lv_sub hl [0, 1, 2, 3, 4, 5, 6] rfl) hf
        · replace hf := ite_t hf c16
          refine lv_iconst (v := 1) hx hb dX6_could_44 (by decide) ?_
          refine lv_goto (tgt := 49) hx hb dX6_could_45 (by decide) ?_
          exact P_49 _ _ _ _ _ _ _ _ _ _ hW (lv_sub hl [0, 1, 2, 3, 4, 5, 6] rfl) hf
  unfold fX6_could at hf
  refine lv_aload_n hx hb dX6_could_0 rfl (lv_at hl 0 rfl) ?_
  refine lv_iload_n hx hb dX6_could_1 rfl (lv_at hl 1 rfl) ?_
  refine lv_aload_n hx hb dX6_could_2 rfl (lv_at hl 0 rfl) ?_
  refine lv_iload_n hx hb dX6_could_3 rfl (lv_at hl 1 rfl) ?_
  refine lv_iconst (v := 0) hx hb dX6_could_4 (by decide) ?_
  obtain ⟨r2, e1, hf⟩ := bnd_ex hf
  refine k_i X hW (k_V (As := [.int x1, .int 0]) (rest := [.int x1, .ref (ad g 21 0)]) X hW hml hl.1 (c_X6_of l g hDW  _ _ mm _ e1) (r_recv X hW 21 0 (by decide) (by decide) rfl rfl) ⟨mw_1027, kw_X6_of⟩ ⟨⟨rfl, rfl⟩, ko_X6_of, ⟨Nat.le_of_ble_eq_true rfl, Nat.le_of_ble_eq_true rfl⟩⟩ rfl rfl (Nat.le_of_ble_eq_true rfl) dX6_could_5 ⟨Nat.le_of_ble_eq_true rfl, Nat.le_of_ble_eq_true rfl⟩) (fun H locs hW => ?_)
  obtain ⟨r5, e4, hf⟩ := bnd_ex hf
  refine k_i X hW (k_S (As := [.int r2]) (rest := [.int x1, .ref (ad g 21 0)]) X hW hml hl.1 (c_X6_segmentsOf l g hDW  _ mm _ e4) ⟨mw_1062, kw_X6_segmentsOf⟩ ⟨⟨rfl, rfl⟩, ko_X6_segmentsOf, ⟨Nat.le_of_ble_eq_true rfl, Nat.le_of_ble_eq_true rfl⟩⟩ rfl rfl (Nat.le_of_ble_eq_true rfl) dX6_could_8 ⟨Nat.le_of_ble_eq_true rfl, Nat.le_of_ble_eq_true rfl⟩) (fun H locs hW => ?_)
  obtain ⟨r8, e7, hf⟩ := bnd_ex hf
  refine k_i X hW (k_V (As := [.int x1, .int r5]) (rest := []) X hW hml hl.1 (c_X6_working l g hDW  _ _ mm _ e7) (r_recv X hW 21 0 (by decide) (by decide) rfl rfl) ⟨mw_1065, kw_X6_working⟩ ⟨⟨rfl, rfl⟩, ko_X6_working, ⟨Nat.le_of_ble_eq_true rfl, Nat.le_of_ble_eq_true rfl⟩⟩ rfl rfl (Nat.le_of_ble_eq_true rfl) dX6_could_11 ⟨Nat.le_of_ble_eq_true rfl, Nat.le_of_ble_eq_true rfl⟩) (fun H locs hW => ?_)
  refine lv_istore_n (lv' := [(3, .int r8), (0, .ref (ad g 21 0)), (1, .int x1), (2, .int x2)]) hx hb dX6_could_14 rfl hl (by decide) rfl (fun ls hl => ?_)
  refine lv_iconst (v := 0) hx hb dX6_could_15 (by decide) ?_
  refine lv_istore (lv' := [(4, .int 0), (3, .int r8), (0, .ref (ad g 21 0)), (1, .int x1), (2, .int x2)]) hx hb dX6_could_16 hl (by decide) rfl (fun ls hl => ?_)
  refine lv_iconst (v := -1) hx hb dX6_could_18 (by decide) ?_
  refine lv_istore (lv' := [(5, .int (-1)), (4, .int 0), (3, .int r8), (0, .ref (ad g 21 0)), (1, .int x1), (2, .int x2)]) hx hb dX6_could_19 hl (by decide) rfl (fun ls hl => ?_)
  refine lv_bipush (v := 17) hx hb dX6_could_21 (by decide) ?_
  refine lv_istore (lv' := [(6, .int 17), (5, .int (-1)), (4, .int 0), (3, .int r8), (0, .ref (ad g 21 0)), (1, .int x1), (2, .int x2)]) hx hb dX6_could_23 hl (by decide) rfl (fun ls hl => ?_)
  exact P_25 _ _ _ _ _ _ _ _ _ _ hW (lv_sub hl [4, 5, 6, 3, 2, 1, 0] rfl) hf
set_option maxRecDepth 100000 in
set_option maxHeartbeats 4000000 in
theorem c_X6_couldBe (l : Launch) (g : gG) (hDW : DW g) (x1 : Int32) (x2 : Int32) (mm : gM) (r0 : Int32) (mZ : gM) (hf : fX6_couldBe x1 x2 mm = some (r0, mZ)) : Met l yX6_couldBe (Cond.code yX6_couldBe cX6_couldBe 3 (some .int) :: ALLW) rm_X6_couldBe (CPre g mm [.ref (ad g 21 0), .int x1, .int x2]) (CI g mZ r0) 0 0 (gA g) := by
  refine Met.ofW (cc := cX6_couldBe) (maxL := 3) (ret := (some .int)) (by decide) rfl ?_
  intro p e s m args below meth c s₁ B hml hv
  obtain ⟨ha, hFx, hP0, hlo⟩ := hv
  have X : Cx g p s m args c meth RX6 cX6_couldBe := Cx_of hDW hFx hlo B
  have hx := X.1
  have hb := X.2.1
  have hr := B.returns
  have hlocks := X.2.2.2.2.2.2.2
  have hW : Wd g mm s s.heap [] := ⟨hP0, va_S.rf⟩
  rw [ha, lg_entry_eq]
  have hl := lv_entry ([.ref (ad g 21 0), .int x1, .int x2] : List Value) (n := 3) (Nat.le_of_ble_eq_true rfl)
  generalize (lg_sl ([.ref (ad g 21 0), .int x1, .int x2] : List Value) ++ List.replicate (3 - (lg_sl ([.ref (ad g 21 0), .int x1, .int x2] : List Value)).length) Slot.unset).toArray = ls at hl ⊢
  have hl : lv_has ls 3 [(0, .ref (ad g 21 0)), (1, .int x1), (2, .int x2)] := hl
  rw [← ha]
  show W p l e rm_X6_couldBe s m args below meth c s.heap [] 0 0 (MQ below (CI g mZ r0) args s 0 0 (gA g)) (F0 m 0 ls [])
  unfold fX6_couldBe at hf
  refine lv_aload_n hx hb dX6_couldBe_0 rfl (lv_at hl 0 rfl) ?_
  refine lv_iconst (v := 0) hx hb dX6_couldBe_1 (by decide) ?_
  obtain ⟨m1, ex, hf⟩ := wth_ex hf
  refine pf_21_0 X hW (by decide) mw_947 dX6_couldBe_2 (fun H locs hW => ?_)
  replace hW := hW.same ex
  clear ex
  refine lv_iload_n hx hb dX6_couldBe_5 rfl (lv_at hl 1 rfl) ?_
  obtain ⟨r3, e2, hf⟩ := bnd_ex hf
  refine k_i X hW (k_S (As := [.int x1]) (rest := []) X hW hml hl.1 (c_X6_isSlot l g hDW  _ m1 _ e2) ⟨mw_1013, kw_X6_isSlot⟩ ⟨⟨rfl, rfl⟩, ko_X6_isSlot, ⟨Nat.le_of_ble_eq_true rfl, Nat.le_of_ble_eq_true rfl⟩⟩ rfl rfl (Nat.le_of_ble_eq_true rfl) dX6_couldBe_6 ⟨Nat.le_of_ble_eq_true rfl, Nat.le_of_ble_eq_true rfl⟩) (fun H locs hW => ?_)
  refine lv_if_ne (tgt := 18) hx hb dX6_couldBe_9 (by decide) (fun c18 => ?_) (fun c18 => ?_)
  · replace hf := ite_f hf c18
    refine lv_iload_n hx hb dX6_couldBe_18 rfl (lv_at hl 2 rfl) ?_
    refine lv_iconst (v := 0) hx hb dX6_couldBe_19 (by decide) ?_
    refine lv_iconst (v := 1) hx hb dX6_couldBe_20 (by decide) ?_
    obtain ⟨r6, e5, hf⟩ := bnd_ex hf
    refine k_i X hW (k_S (As := [.int x2, .int 0, .int 1]) (rest := []) X hW hml hl.1 (c_X6_in l g hDW  _ _ _ m1 _ e5) ⟨mw_1016, kw_X6_in⟩ ⟨⟨rfl, rfl⟩, ko_X6_in, ⟨Nat.le_of_ble_eq_true rfl, Nat.le_of_ble_eq_true rfl⟩⟩ rfl rfl (Nat.le_of_ble_eq_true rfl) dX6_couldBe_21 ⟨Nat.le_of_ble_eq_true rfl, Nat.le_of_ble_eq_true rfl⟩) (fun H locs hW => ?_)
    refine lv_if_eq (tgt := 36) hx hb dX6_couldBe_24 (by decide) (fun c14 => ?_) (fun c14 => ?_)
    · replace hf := ite_t hf c14
      refine lv_aload_n hx hb dX6_couldBe_36 rfl (lv_at hl 0 rfl) ?_
      refine lv_iconst (v := 2) hx hb dX6_couldBe_37 (by decide) ?_
      obtain ⟨r9, m10, e8, hf⟩ := bn2_ex hf
      refine k_i X hW (k_V (As := [.int 2]) (rest := []) X hW hml hl.1 (c_X6_fails l g hDW  _ m1 _ _ e8) (r_recv X hW 21 0 (by decide) (by decide) rfl rfl) ⟨mw_1019, kw_X6_fails⟩ ⟨⟨rfl, rfl⟩, ko_X6_fails, ⟨Nat.le_of_ble_eq_true rfl, Nat.le_of_ble_eq_true rfl⟩⟩ rfl rfl (Nat.le_of_ble_eq_true rfl) dX6_couldBe_38 ⟨Nat.le_of_ble_eq_true rfl, Nat.le_of_ble_eq_true rfl⟩) (fun H locs hW => ?_)
      obtain ⟨hf, hm⟩ := prinj hf
      replace hW := hW.same hm.symm
      exact e_i X hr hW (hf) dX6_couldBe_41
    · replace hf := ite_f hf c14
      refine lv_aload_n hx hb dX6_couldBe_27 rfl (lv_at hl 0 rfl) ?_
      refine lv_iload_n hx hb dX6_couldBe_28 rfl (lv_at hl 1 rfl) ?_
      refine lv_iload_n hx hb dX6_couldBe_29 rfl (lv_at hl 2 rfl) ?_
      obtain ⟨r12, e11, hf⟩ := bnd_ex hf
      refine k_i X hW (k_V (As := [.int x1, .int x2]) (rest := []) X hW hml hl.1 (c_X6_could l g hDW  _ _ m1 _ e11) (r_recv X hW 21 0 (by decide) (by decide) rfl rfl) ⟨mw_1251, kw_X6_could⟩ ⟨⟨rfl, rfl⟩, ko_X6_could, ⟨Nat.le_of_ble_eq_true rfl, Nat.le_of_ble_eq_true rfl⟩⟩ rfl rfl (Nat.le_of_ble_eq_true rfl) dX6_couldBe_30 ⟨Nat.le_of_ble_eq_true rfl, Nat.le_of_ble_eq_true rfl⟩) (fun H locs hW => ?_)
      refine lv_goto (tgt := 41) hx hb dX6_couldBe_33 (by decide) ?_
      obtain ⟨hf, hm⟩ := prinj hf
      replace hW := hW.same hm.symm
      exact e_i X hr hW (hf) dX6_couldBe_41
  · replace hf := ite_t hf c18
    refine lv_aload_n hx hb dX6_couldBe_12 rfl (lv_at hl 0 rfl) ?_
    refine lv_iconst (v := 1) hx hb dX6_couldBe_13 (by decide) ?_
    obtain ⟨r16, m17, e15, hf⟩ := bn2_ex hf
    refine k_i X hW (k_V (As := [.int 1]) (rest := []) X hW hml hl.1 (c_X6_fails l g hDW  _ m1 _ _ e15) (r_recv X hW 21 0 (by decide) (by decide) rfl rfl) ⟨mw_1019, kw_X6_fails⟩ ⟨⟨rfl, rfl⟩, ko_X6_fails, ⟨Nat.le_of_ble_eq_true rfl, Nat.le_of_ble_eq_true rfl⟩⟩ rfl rfl (Nat.le_of_ble_eq_true rfl) dX6_couldBe_14 ⟨Nat.le_of_ble_eq_true rfl, Nat.le_of_ble_eq_true rfl⟩) (fun H locs hW => ?_)
    obtain ⟨hf, hm⟩ := prinj hf
    replace hW := hW.same hm.symm
    exact e_i X hr hW (hf) dX6_couldBe_17
set_option maxRecDepth 100000 in
set_option maxHeartbeats 4000000 in
theorem c_X6_timed (l : Launch) (g : gG) (hDW : DW g) (x1 : Int32) (x2 : Int32) (mm : gM) (r0 : Int32) (mZ : gM) (hf : fX6_timed x1 x2 mm = some (r0, mZ)) : Met l yX6_timed (Cond.code yX6_timed cX6_timed 5 (some .int) :: ALLW) rm_X6_timed (CPre g mm [.ref (ad g 21 0), .int x1, .int x2]) (CI g mZ r0) 0 0 (gA g) := by
  refine Met.ofW (cc := cX6_timed) (maxL := 5) (ret := (some .int)) (by decide) rfl ?_
  intro p e s m args below meth c s₁ B hml hv
  obtain ⟨ha, hFx, hP0, hlo⟩ := hv
  have X : Cx g p s m args c meth RX6 cX6_timed := Cx_of hDW hFx hlo B
  have hx := X.1
  have hb := X.2.1
  have hr := B.returns
  have hlocks := X.2.2.2.2.2.2.2
  have hW : Wd g mm s s.heap [] := ⟨hP0, va_S.rf⟩
  rw [ha, lg_entry_eq]
  have hl := lv_entry ([.ref (ad g 21 0), .int x1, .int x2] : List Value) (n := 5) (Nat.le_of_ble_eq_true rfl)
  generalize (lg_sl ([.ref (ad g 21 0), .int x1, .int x2] : List Value) ++ List.replicate (5 - (lg_sl ([.ref (ad g 21 0), .int x1, .int x2] : List Value)).length) Slot.unset).toArray = ls at hl ⊢
  have hl : lv_has ls 5 [(0, .ref (ad g 21 0)), (1, .int x1), (2, .int x2)] := hl
  rw [← ha]
  show W p l e rm_X6_timed s m args below meth c s.heap [] 0 0 (MQ below (CI g mZ r0) args s 0 0 (gA g)) (F0 m 0 ls [])
  unfold fX6_timed at hf
  refine lv_aload_n hx hb dX6_timed_0 rfl (lv_at hl 0 rfl) ?_
  refine lv_iload_n hx hb dX6_timed_1 rfl (lv_at hl 1 rfl) ?_
  refine lv_iconst (v := 2) hx hb dX6_timed_2 (by decide) ?_
  obtain ⟨r2, e1, hf⟩ := bnd_ex hf
  refine k_i X hW (k_V (As := [.int x1, .int 2]) (rest := []) X hW hml hl.1 (c_X6_of l g hDW  _ _ mm _ e1) (r_recv X hW 21 0 (by decide) (by decide) rfl rfl) ⟨mw_1027, kw_X6_of⟩ ⟨⟨rfl, rfl⟩, ko_X6_of, ⟨Nat.le_of_ble_eq_true rfl, Nat.le_of_ble_eq_true rfl⟩⟩ rfl rfl (Nat.le_of_ble_eq_true rfl) dX6_timed_3 ⟨Nat.le_of_ble_eq_true rfl, Nat.le_of_ble_eq_true rfl⟩) (fun H locs hW => ?_)
  refine lv_istore_n (lv' := [(3, .int r2), (0, .ref (ad g 21 0)), (1, .int x1), (2, .int x2)]) hx hb dX6_timed_6 rfl hl (by decide) rfl (fun ls hl => ?_)
  refine lv_aload_n hx hb dX6_timed_7 rfl (lv_at hl 1 rfl) ?_
  refine lv_iload_n hx hb dX6_timed_8 rfl (lv_at hl 2 rfl) ?_
  refine lv_iconst (v := 2) hx hb dX6_timed_9 (by decide) ?_
  refine lv_iload_n hx hb dX6_timed_10 rfl (lv_at hl 3 rfl) ?_
  obtain ⟨m6, e4, hf⟩ := bnd_ex hf
  refine k_v X hW (k_V (As := [.int x1, .int 2, .int x2]) (rest := []) X hW hml hl.1 (c_X6_lay l g hDW  _ _ _ mm _ e4) (r_recv X hW 21 0 (by decide) (by decide) rfl rfl) ⟨mw_943, kw_X6_lay⟩ ⟨⟨rfl, rfl⟩, ko_X6_lay, ⟨Nat.le_of_ble_eq_true rfl, Nat.le_of_ble_eq_true rfl⟩⟩ rfl rfl (Nat.le_of_ble_eq_true rfl) dX6_timed_11 ⟨Nat.le_of_ble_eq_true rfl, Nat.le_of_ble_eq_true rfl⟩) (fun H locs hW => ?_)
  refine lv_aload_n hx hb dX6_timed_14 rfl (lv_at hl 1 rfl) ?_
  obtain ⟨m9, e7, hf⟩ := bnd_ex hf
  refine k_v X hW (k_V (As := []) (rest := []) X hW hml hl.1 (c_X6_views l g hDW   m6 _ e7) (r_recv X hW 21 0 (by decide) (by decide) rfl rfl) ⟨mw_1160, kw_X6_views⟩ ⟨⟨rfl, rfl⟩, ko_X6_views, ⟨Nat.le_of_ble_eq_true rfl, Nat.le_of_ble_eq_true rfl⟩⟩ rfl rfl (Nat.le_of_ble_eq_true rfl) dX6_timed_15 ⟨Nat.le_of_ble_eq_true rfl, Nat.le_of_ble_eq_true rfl⟩) (fun H locs hW => ?_)
  refine lv_aload_n hx hb dX6_timed_18 rfl (lv_at hl 1 rfl) ?_
  refine lv_iload_n hx hb dX6_timed_19 rfl (lv_at hl 2 rfl) ?_
  obtain ⟨r11, e10, hf⟩ := bnd_ex hf
  refine k_i X hW (k_V (As := [.int x1]) (rest := []) X hW hml hl.1 (c_X6_meanOf l g hDW  _ m9 _ e10) (r_recv X hW 21 0 (by decide) (by decide) rfl rfl) ⟨mw_1203, kw_X6_meanOf⟩ ⟨⟨rfl, rfl⟩, ko_X6_meanOf, ⟨Nat.le_of_ble_eq_true rfl, Nat.le_of_ble_eq_true rfl⟩⟩ rfl rfl (Nat.le_of_ble_eq_true rfl) dX6_timed_20 ⟨Nat.le_of_ble_eq_true rfl, Nat.le_of_ble_eq_true rfl⟩) (fun H locs hW => ?_)
  refine lv_istore (lv' := [(4, .int r11), (3, .int r2), (0, .ref (ad g 21 0)), (1, .int x1), (2, .int x2)]) hx hb dX6_timed_23 hl (by decide) rfl (fun ls hl => ?_)
  refine lv_aload_n hx hb dX6_timed_25 rfl (lv_at hl 2 rfl) ?_
  refine lv_iload_n hx hb dX6_timed_26 rfl (lv_at hl 3 rfl) ?_
  refine lv_iconst (v := 2) hx hb dX6_timed_27 (by decide) ?_
  refine lv_iload_n hx hb dX6_timed_28 rfl (lv_at hl 1 rfl) ?_
  obtain ⟨m15, e13, hf⟩ := bnd_ex hf
  refine k_v X hW (k_V (As := [.int x1, .int 2, .int r2]) (rest := []) X hW hml hl.1 (c_X6_lay l g hDW  _ _ _ m9 _ e13) (r_recv X hW 21 0 (by decide) (by decide) rfl rfl) ⟨mw_943, kw_X6_lay⟩ ⟨⟨rfl, rfl⟩, ko_X6_lay, ⟨Nat.le_of_ble_eq_true rfl, Nat.le_of_ble_eq_true rfl⟩⟩ rfl rfl (Nat.le_of_ble_eq_true rfl) dX6_timed_29 ⟨Nat.le_of_ble_eq_true rfl, Nat.le_of_ble_eq_true rfl⟩) (fun H locs hW => ?_)
  refine lv_iload hx hb dX6_timed_32 (lv_at hl 0 rfl) ?_
  obtain ⟨hf, hm⟩ := prinj hf
  replace hW := hW.same hm.symm
  exact e_i X hr hW (hf) dX6_timed_34
set_option maxRecDepth 100000 in
set_option maxHeartbeats 4000000 in
theorem c_X6_ifTimed (l : Launch) (g : gG) (hDW : DW g) (x1 : Int32) (x2 : Int32) (mm : gM) (r0 : Int32) (mZ : gM) (hf : fX6_ifTimed x1 x2 mm = some (r0, mZ)) : Met l yX6_ifTimed (Cond.code yX6_ifTimed cX6_ifTimed 3 (some .int) :: ALLW) rm_X6_ifTimed (CPre g mm [.ref (ad g 21 0), .int x1, .int x2]) (CI g mZ r0) 0 0 (gA g) := by
  refine Met.ofW (cc := cX6_ifTimed) (maxL := 3) (ret := (some .int)) (by decide) rfl ?_
  intro p e s m args below meth c s₁ B hml hv
  obtain ⟨ha, hFx, hP0, hlo⟩ := hv
  have X : Cx g p s m args c meth RX6 cX6_ifTimed := Cx_of hDW hFx hlo B
  have hx := X.1
  have hb := X.2.1
  have hr := B.returns
  have hlocks := X.2.2.2.2.2.2.2
  have hW : Wd g mm s s.heap [] := ⟨hP0, va_S.rf⟩
  rw [ha, lg_entry_eq]
  have hl := lv_entry ([.ref (ad g 21 0), .int x1, .int x2] : List Value) (n := 3) (Nat.le_of_ble_eq_true rfl)
  generalize (lg_sl ([.ref (ad g 21 0), .int x1, .int x2] : List Value) ++ List.replicate (3 - (lg_sl ([.ref (ad g 21 0), .int x1, .int x2] : List Value)).length) Slot.unset).toArray = ls at hl ⊢
  have hl : lv_has ls 3 [(0, .ref (ad g 21 0)), (1, .int x1), (2, .int x2)] := hl
  rw [← ha]
  show W p l e rm_X6_ifTimed s m args below meth c s.heap [] 0 0 (MQ below (CI g mZ r0) args s 0 0 (gA g)) (F0 m 0 ls [])
  unfold fX6_ifTimed at hf
  refine lv_aload_n hx hb dX6_ifTimed_0 rfl (lv_at hl 0 rfl) ?_
  refine lv_iconst (v := 0) hx hb dX6_ifTimed_1 (by decide) ?_
  obtain ⟨m1, ex, hf⟩ := wth_ex hf
  refine pf_21_0 X hW (by decide) mw_947 dX6_ifTimed_2 (fun H locs hW => ?_)
  replace hW := hW.same ex
  clear ex
  refine lv_iload_n hx hb dX6_ifTimed_5 rfl (lv_at hl 1 rfl) ?_
  obtain ⟨r3, e2, hf⟩ := bnd_ex hf
  refine k_i X hW (k_S (As := [.int x1]) (rest := []) X hW hml hl.1 (c_X6_isSlot l g hDW  _ m1 _ e2) ⟨mw_1013, kw_X6_isSlot⟩ ⟨⟨rfl, rfl⟩, ko_X6_isSlot, ⟨Nat.le_of_ble_eq_true rfl, Nat.le_of_ble_eq_true rfl⟩⟩ rfl rfl (Nat.le_of_ble_eq_true rfl) dX6_ifTimed_6 ⟨Nat.le_of_ble_eq_true rfl, Nat.le_of_ble_eq_true rfl⟩) (fun H locs hW => ?_)
  refine lv_if_ne (tgt := 18) hx hb dX6_ifTimed_9 (by decide) (fun c18 => ?_) (fun c18 => ?_)
  · replace hf := ite_f hf c18
    refine lv_iload_n hx hb dX6_ifTimed_18 rfl (lv_at hl 2 rfl) ?_
    refine lv_iconst (v := 0) hx hb dX6_ifTimed_19 (by decide) ?_
    refine lv_bipush (v := 20) hx hb dX6_ifTimed_20 (by decide) ?_
    obtain ⟨r6, e5, hf⟩ := bnd_ex hf
    refine k_i X hW (k_S (As := [.int x2, .int 0, .int 20]) (rest := []) X hW hml hl.1 (c_X6_in l g hDW  _ _ _ m1 _ e5) ⟨mw_1016, kw_X6_in⟩ ⟨⟨rfl, rfl⟩, ko_X6_in, ⟨Nat.le_of_ble_eq_true rfl, Nat.le_of_ble_eq_true rfl⟩⟩ rfl rfl (Nat.le_of_ble_eq_true rfl) dX6_ifTimed_22 ⟨Nat.le_of_ble_eq_true rfl, Nat.le_of_ble_eq_true rfl⟩) (fun H locs hW => ?_)
    refine lv_if_eq (tgt := 37) hx hb dX6_ifTimed_25 (by decide) (fun c14 => ?_) (fun c14 => ?_)
    · replace hf := ite_t hf c14
      refine lv_aload_n hx hb dX6_ifTimed_37 rfl (lv_at hl 0 rfl) ?_
      refine lv_iconst (v := 2) hx hb dX6_ifTimed_38 (by decide) ?_
      obtain ⟨r9, m10, e8, hf⟩ := bn2_ex hf
      refine k_i X hW (k_V (As := [.int 2]) (rest := []) X hW hml hl.1 (c_X6_fails l g hDW  _ m1 _ _ e8) (r_recv X hW 21 0 (by decide) (by decide) rfl rfl) ⟨mw_1019, kw_X6_fails⟩ ⟨⟨rfl, rfl⟩, ko_X6_fails, ⟨Nat.le_of_ble_eq_true rfl, Nat.le_of_ble_eq_true rfl⟩⟩ rfl rfl (Nat.le_of_ble_eq_true rfl) dX6_ifTimed_39 ⟨Nat.le_of_ble_eq_true rfl, Nat.le_of_ble_eq_true rfl⟩) (fun H locs hW => ?_)
      obtain ⟨hf, hm⟩ := prinj hf
      replace hW := hW.same hm.symm
      exact e_i X hr hW (hf) dX6_ifTimed_42
    · replace hf := ite_f hf c14
      refine lv_aload_n hx hb dX6_ifTimed_28 rfl (lv_at hl 0 rfl) ?_
      refine lv_iload_n hx hb dX6_ifTimed_29 rfl (lv_at hl 1 rfl) ?_
      refine lv_iload_n hx hb dX6_ifTimed_30 rfl (lv_at hl 2 rfl) ?_
      obtain ⟨r12, m13, e11, hf⟩ := bn2_ex hf
      refine k_i X hW (k_V (As := [.int x1, .int x2]) (rest := []) X hW hml hl.1 (c_X6_timed l g hDW  _ _ m1 _ _ e11) (r_recv X hW 21 0 (by decide) (by decide) rfl rfl) ⟨mw_1259, kw_X6_timed⟩ ⟨⟨rfl, rfl⟩, ko_X6_timed, ⟨Nat.le_of_ble_eq_true rfl, Nat.le_of_ble_eq_true rfl⟩⟩ rfl rfl (Nat.le_of_ble_eq_true rfl) dX6_ifTimed_31 ⟨Nat.le_of_ble_eq_true rfl, Nat.le_of_ble_eq_true rfl⟩) (fun H locs hW => ?_)
      refine lv_goto (tgt := 42) hx hb dX6_ifTimed_34 (by decide) ?_
      obtain ⟨hf, hm⟩ := prinj hf
      replace hW := hW.same hm.symm
      exact e_i X hr hW (hf) dX6_ifTimed_42
  · replace hf := ite_t hf c18
    refine lv_aload_n hx hb dX6_ifTimed_12 rfl (lv_at hl 0 rfl) ?_
    refine lv_iconst (v := 1) hx hb dX6_ifTimed_13 (by decide) ?_
    obtain ⟨r16, m17, e15, hf⟩ := bn2_ex hf
    refine k_i X hW (k_V (As := [.int 1]) (rest := []) X hW hml hl.1 (c_X6_fails l g hDW  _ m1 _ _ e15) (r_recv X hW 21 0 (by decide) (by decide) rfl rfl) ⟨mw_1019, kw_X6_fails⟩ ⟨⟨rfl, rfl⟩, ko_X6_fails, ⟨Nat.le_of_ble_eq_true rfl, Nat.le_of_ble_eq_true rfl⟩⟩ rfl rfl (Nat.le_of_ble_eq_true rfl) dX6_ifTimed_14 ⟨Nat.le_of_ble_eq_true rfl, Nat.le_of_ble_eq_true rfl⟩) (fun H locs hW => ?_)
    obtain ⟨hf, hm⟩ := prinj hf
    replace hW := hW.same hm.symm
    exact e_i X hr hW (hf) dX6_ifTimed_17
set_option maxRecDepth 100000 in
set_option maxHeartbeats 4000000 in
theorem c_X6_balanced (l : Launch) (g : gG) (hDW : DW g) (x1 : Int32) (x2 : Int32) (mm : gM) (r0 : Int32) (mZ : gM) (hf : fX6_balanced x1 x2 mm = some (r0, mZ)) : Met l yX6_balanced (Cond.code yX6_balanced cX6_balanced 3 (some .int) :: ALLW) rm_X6_balanced (CPre g mm [.ref (ad g 21 0), .int x1, .int x2]) (CI g mZ r0) 0 0 (gA g) := by
  refine Met.ofW (cc := cX6_balanced) (maxL := 3) (ret := (some .int)) (by decide) rfl ?_
  intro p e s m args below meth c s₁ B hml hv
  obtain ⟨ha, hFx, hP0, hlo⟩ := hv
  have X : Cx g p s m args c meth RX6 cX6_balanced := Cx_of hDW hFx hlo B
  have hx := X.1
  have hb := X.2.1
  have hr := B.returns
  have hlocks := X.2.2.2.2.2.2.2
  have hW : Wd g mm s s.heap [] := ⟨hP0, va_S.rf⟩
  rw [ha, lg_entry_eq]
  have hl := lv_entry ([.ref (ad g 21 0), .int x1, .int x2] : List Value) (n := 3) (Nat.le_of_ble_eq_true rfl)
  generalize (lg_sl ([.ref (ad g 21 0), .int x1, .int x2] : List Value) ++ List.replicate (3 - (lg_sl ([.ref (ad g 21 0), .int x1, .int x2] : List Value)).length) Slot.unset).toArray = ls at hl ⊢
  have hl : lv_has ls 3 [(0, .ref (ad g 21 0)), (1, .int x1), (2, .int x2)] := hl
  rw [← ha]
  show W p l e rm_X6_balanced s m args below meth c s.heap [] 0 0 (MQ below (CI g mZ r0) args s 0 0 (gA g)) (F0 m 0 ls [])
  unfold fX6_balanced at hf
  refine lv_aload_n hx hb dX6_balanced_0 rfl (lv_at hl 0 rfl) ?_
  obtain ⟨r2, e1, hf⟩ := bnd_ex hf
  refine k_i X hW (k_V (As := []) (rest := []) X hW hml hl.1 (c_X6_workingSlots l g hDW   mm _ e1) (r_recv X hW 21 0 (by decide) (by decide) rfl rfl) ⟨mw_1054, kw_X6_workingSlots⟩ ⟨⟨rfl, rfl⟩, ko_X6_workingSlots, ⟨Nat.le_of_ble_eq_true rfl, Nat.le_of_ble_eq_true rfl⟩⟩ rfl rfl (Nat.le_of_ble_eq_true rfl) dX6_balanced_1 ⟨Nat.le_of_ble_eq_true rfl, Nat.le_of_ble_eq_true rfl⟩) (fun H locs hW => ?_)
  refine lv_if_ne (tgt := 9) hx hb dX6_balanced_4 (by decide) (fun c8 => ?_) (fun c8 => ?_)
  · replace hf := ite_f hf c8
    refine lv_aload_n hx hb dX6_balanced_9 rfl (lv_at hl 0 rfl) ?_
    refine lv_iload_n hx hb dX6_balanced_10 rfl (lv_at hl 1 rfl) ?_
    obtain ⟨r5, m6, e4, hf⟩ := bn2_ex hf
    refine k_i X hW (k_V (As := [.int x1]) (rest := []) X hW hml hl.1 (c_X6_gives l g hDW  _ mm _ _ e4) (r_recv X hW 21 0 (by decide) (by decide) rfl rfl) ⟨mw_1069, kw_X6_gives⟩ ⟨⟨rfl, rfl⟩, ko_X6_gives, ⟨Nat.le_of_ble_eq_true rfl, Nat.le_of_ble_eq_true rfl⟩⟩ rfl rfl (Nat.le_of_ble_eq_true rfl) dX6_balanced_11 ⟨Nat.le_of_ble_eq_true rfl, Nat.le_of_ble_eq_true rfl⟩) (fun H locs hW => ?_)
    refine lv_pop hx hb dX6_balanced_14 rfl ?_
    refine lv_aload_n hx hb dX6_balanced_15 rfl (lv_at hl 0 rfl) ?_
    refine gf_21_17 X hW (by decide) mw_964 dX6_balanced_16 ?_
    refine lv_iload_n hx hb dX6_balanced_19 rfl (lv_at hl 2 rfl) ?_
    obtain ⟨b7, hf⟩ := chk_ex hf
    refine r_iald X hW 33 0 (by decide) (by decide) rfl b7 dX6_balanced_20 ?_
    obtain ⟨hf, hm⟩ := prinj hf
    replace hW := hW.same hm.symm
    exact e_i X hr hW (hf) dX6_balanced_21
  · replace hf := ite_t hf c8
    refine lv_iconst (v := -1) hx hb dX6_balanced_7 (by decide) ?_
    obtain ⟨hf, hm⟩ := prinj hf
    replace hW := hW.same hm.symm
    exact e_i X hr hW (hf) dX6_balanced_8
set_option maxRecDepth 100000 in
set_option maxHeartbeats 4000000 in
theorem c_X6_ifBalanced (l : Launch) (g : gG) (hDW : DW g) (x1 : Int32) (x2 : Int32) (mm : gM) (r0 : Int32) (mZ : gM) (hf : fX6_ifBalanced x1 x2 mm = some (r0, mZ)) : Met l yX6_ifBalanced (Cond.code yX6_ifBalanced cX6_ifBalanced 3 (some .int) :: ALLW) rm_X6_ifBalanced (CPre g mm [.ref (ad g 21 0), .int x1, .int x2]) (CI g mZ r0) 0 0 (gA g) := by
  refine Met.ofW (cc := cX6_ifBalanced) (maxL := 3) (ret := (some .int)) (by decide) rfl ?_
  intro p e s m args below meth c s₁ B hml hv
  obtain ⟨ha, hFx, hP0, hlo⟩ := hv
  have X : Cx g p s m args c meth RX6 cX6_ifBalanced := Cx_of hDW hFx hlo B
  have hx := X.1
  have hb := X.2.1
  have hr := B.returns
  have hlocks := X.2.2.2.2.2.2.2
  have hW : Wd g mm s s.heap [] := ⟨hP0, va_S.rf⟩
  rw [ha, lg_entry_eq]
  have hl := lv_entry ([.ref (ad g 21 0), .int x1, .int x2] : List Value) (n := 3) (Nat.le_of_ble_eq_true rfl)
  generalize (lg_sl ([.ref (ad g 21 0), .int x1, .int x2] : List Value) ++ List.replicate (3 - (lg_sl ([.ref (ad g 21 0), .int x1, .int x2] : List Value)).length) Slot.unset).toArray = ls at hl ⊢
  have hl : lv_has ls 3 [(0, .ref (ad g 21 0)), (1, .int x1), (2, .int x2)] := hl
  rw [← ha]
  show W p l e rm_X6_ifBalanced s m args below meth c s.heap [] 0 0 (MQ below (CI g mZ r0) args s 0 0 (gA g)) (F0 m 0 ls [])
  unfold fX6_ifBalanced at hf
  refine lv_aload_n hx hb dX6_ifBalanced_0 rfl (lv_at hl 0 rfl) ?_
  refine lv_iconst (v := 0) hx hb dX6_ifBalanced_1 (by decide) ?_
  obtain ⟨m1, ex, hf⟩ := wth_ex hf
  refine pf_21_0 X hW (by decide) mw_947 dX6_ifBalanced_2 (fun H locs hW => ?_)
  replace hW := hW.same ex
  clear ex
  refine lv_iload_n hx hb dX6_ifBalanced_5 rfl (lv_at hl 2 rfl) ?_
  obtain ⟨r3, e2, hf⟩ := bnd_ex hf
  refine k_i X hW (k_S (As := [.int x2]) (rest := []) X hW hml hl.1 (c_X6_isSlot l g hDW  _ m1 _ e2) ⟨mw_1013, kw_X6_isSlot⟩ ⟨⟨rfl, rfl⟩, ko_X6_isSlot, ⟨Nat.le_of_ble_eq_true rfl, Nat.le_of_ble_eq_true rfl⟩⟩ rfl rfl (Nat.le_of_ble_eq_true rfl) dX6_ifBalanced_6 ⟨Nat.le_of_ble_eq_true rfl, Nat.le_of_ble_eq_true rfl⟩) (fun H locs hW => ?_)
  refine lv_if_ne (tgt := 18) hx hb dX6_ifBalanced_9 (by decide) (fun c18 => ?_) (fun c18 => ?_)
  · replace hf := ite_f hf c18
    refine lv_iload_n hx hb dX6_ifBalanced_18 rfl (lv_at hl 1 rfl) ?_
    refine lv_bipush (v := 6) hx hb dX6_ifBalanced_19 (by decide) ?_
    refine lv_bipush (v := 60) hx hb dX6_ifBalanced_21 (by decide) ?_
    obtain ⟨r6, e5, hf⟩ := bnd_ex hf
    refine k_i X hW (k_S (As := [.int x1, .int 6, .int 60]) (rest := []) X hW hml hl.1 (c_X6_in l g hDW  _ _ _ m1 _ e5) ⟨mw_1016, kw_X6_in⟩ ⟨⟨rfl, rfl⟩, ko_X6_in, ⟨Nat.le_of_ble_eq_true rfl, Nat.le_of_ble_eq_true rfl⟩⟩ rfl rfl (Nat.le_of_ble_eq_true rfl) dX6_ifBalanced_23 ⟨Nat.le_of_ble_eq_true rfl, Nat.le_of_ble_eq_true rfl⟩) (fun H locs hW => ?_)
    refine lv_if_eq (tgt := 38) hx hb dX6_ifBalanced_26 (by decide) (fun c14 => ?_) (fun c14 => ?_)
    · replace hf := ite_t hf c14
      refine lv_aload_n hx hb dX6_ifBalanced_38 rfl (lv_at hl 0 rfl) ?_
      refine lv_iconst (v := 2) hx hb dX6_ifBalanced_39 (by decide) ?_
      obtain ⟨r9, m10, e8, hf⟩ := bn2_ex hf
      refine k_i X hW (k_V (As := [.int 2]) (rest := []) X hW hml hl.1 (c_X6_fails l g hDW  _ m1 _ _ e8) (r_recv X hW 21 0 (by decide) (by decide) rfl rfl) ⟨mw_1019, kw_X6_fails⟩ ⟨⟨rfl, rfl⟩, ko_X6_fails, ⟨Nat.le_of_ble_eq_true rfl, Nat.le_of_ble_eq_true rfl⟩⟩ rfl rfl (Nat.le_of_ble_eq_true rfl) dX6_ifBalanced_40 ⟨Nat.le_of_ble_eq_true rfl, Nat.le_of_ble_eq_true rfl⟩) (fun H locs hW => ?_)
      obtain ⟨hf, hm⟩ := prinj hf
      replace hW := hW.same hm.symm
      exact e_i X hr hW (hf) dX6_ifBalanced_43
    · replace hf := ite_f hf c14
      refine lv_aload_n hx hb dX6_ifBalanced_29 rfl (lv_at hl 0 rfl) ?_
      refine lv_iload_n hx hb dX6_ifBalanced_30 rfl (lv_at hl 1 rfl) ?_
      refine lv_iload_n hx hb dX6_ifBalanced_31 rfl (lv_at hl 2 rfl) ?_
      obtain ⟨r12, m13, e11, hf⟩ := bn2_ex hf
      refine k_i X hW (k_V (As := [.int x1, .int x2]) (rest := []) X hW hml hl.1 (c_X6_balanced l g hDW  _ _ m1 _ _ e11) (r_recv X hW 21 0 (by decide) (by decide) rfl rfl) ⟨mw_1267, kw_X6_balanced⟩ ⟨⟨rfl, rfl⟩, ko_X6_balanced, ⟨Nat.le_of_ble_eq_true rfl, Nat.le_of_ble_eq_true rfl⟩⟩ rfl rfl (Nat.le_of_ble_eq_true rfl) dX6_ifBalanced_32 ⟨Nat.le_of_ble_eq_true rfl, Nat.le_of_ble_eq_true rfl⟩) (fun H locs hW => ?_)
      refine lv_goto (tgt := 43) hx hb dX6_ifBalanced_35 (by decide) ?_
      obtain ⟨hf, hm⟩ := prinj hf
      replace hW := hW.same hm.symm
      exact e_i X hr hW (hf) dX6_ifBalanced_43
  · replace hf := ite_t hf c18
    refine lv_aload_n hx hb dX6_ifBalanced_12 rfl (lv_at hl 0 rfl) ?_
    refine lv_iconst (v := 1) hx hb dX6_ifBalanced_13 (by decide) ?_
    obtain ⟨r16, m17, e15, hf⟩ := bn2_ex hf
    refine k_i X hW (k_V (As := [.int 1]) (rest := []) X hW hml hl.1 (c_X6_fails l g hDW  _ m1 _ _ e15) (r_recv X hW 21 0 (by decide) (by decide) rfl rfl) ⟨mw_1019, kw_X6_fails⟩ ⟨⟨rfl, rfl⟩, ko_X6_fails, ⟨Nat.le_of_ble_eq_true rfl, Nat.le_of_ble_eq_true rfl⟩⟩ rfl rfl (Nat.le_of_ble_eq_true rfl) dX6_ifBalanced_14 ⟨Nat.le_of_ble_eq_true rfl, Nat.le_of_ble_eq_true rfl⟩) (fun H locs hW => ?_)
    obtain ⟨hf, hm⟩ := prinj hf
    replace hW := hW.same hm.symm
    exact e_i X hr hW (hf) dX6_ifBalanced_17
set_option maxRecDepth 100000 in
set_option maxHeartbeats 4000000 in
theorem c_X6_safestSign (l : Launch) (g : gG) (hDW : DW g) (x1 : Int32) (mm : gM) (r0 : Int32) (hf : fX6_safestSign x1 mm = some r0) : Met l yX6_safestSign (Cond.code yX6_safestSign cX6_safestSign 8 (some .int) :: ALLW) rm_X6_safestSign (CPre g mm [.ref (ad g 21 0), .int x1]) (CI g mm r0) 0 0 (gA g) := by
  refine Met.ofW (cc := cX6_safestSign) (maxL := 8) (ret := (some .int)) (by decide) rfl ?_
  intro p e s m args below meth c s₁ B hml hv
  obtain ⟨ha, hFx, hP0, hlo⟩ := hv
  have X : Cx g p s m args c meth RX6 cX6_safestSign := Cx_of hDW hFx hlo B
  have hx := X.1
  have hb := X.2.1
  have hr := B.returns
  have hlocks := X.2.2.2.2.2.2.2
  have hW : Wd g mm s s.heap [] := ⟨hP0, va_S.rf⟩
  rw [ha, lg_entry_eq]
  have hl := lv_entry ([.ref (ad g 21 0), .int x1] : List Value) (n := 8) (Nat.le_of_ble_eq_true rfl)
  generalize (lg_sl ([.ref (ad g 21 0), .int x1] : List Value) ++ List.replicate (8 - (lg_sl ([.ref (ad g 21 0), .int x1] : List Value)).length) Slot.unset).toArray = ls at hl ⊢
  have hl : lv_has ls 8 [(0, .ref (ad g 21 0)), (1, .int x1)] := hl
  rw [← ha]
  show W p l e rm_X6_safestSign s m args below meth c s.heap [] 0 0 (MQ below (CI g mm r0) args s 0 0 (gA g)) (F0 m 0 ls [])
  have P_7 : ∀ (n7 : Nat) (x1 : Int32) (x2 : Int32) (x3 : Int32) (x4 : Int32) (H : Heap) (locs : List Loc) (ls : Array Slot), Wd g mm s H locs → lv_has ls 8 [(0, .ref (ad g 21 0)), (1, .int x1), (2, .int x2), (3, .int x3), (4, .int x4)] → lX6_safestSign_7 mm n7 x1 x2 x3 x4 = some r0 → W p l e rm_X6_safestSign s m args below meth c H locs 0 0 (MQ below (CI g mm r0) args s 0 0 (gA g)) (F0 m 7 ls []) := by
    intro n7
    induction n7 with
    | zero => intro x1 x2 x3 x4 H locs ls hW hl hf; exact (no_some hf).elim
    | succ n7 ih_7 =>
      have P_84 : ∀ (x1 : Int32) (x2 : Int32) (x4 : Int32) (s0 : Int32) (H : Heap) (locs : List Loc) (ls : Array Slot), Wd g mm s H locs → lv_has ls 8 [(0, .ref (ad g 21 0)), (1, .int x1), (2, .int x2), (4, .int x4)] → jX6_safestSign_84 (lX6_safestSign_7 mm n7) mm x1 x2 x4 s0 = some r0 → W p l e rm_X6_safestSign s m args below meth c H locs 0 0 (MQ below (CI g mm r0) args s 0 0 (gA g)) (F0 m 84 ls [.int s0]) := by
        intro x1 x2 x4 s0 H locs ls hW hl hf
        unfold jX6_safestSign_84 at hf
        refine lv_istore_n (lv' := [(3, .int s0), (0, .ref (ad g 21 0)), (1, .int x1), (2, .int x2), (4, .int x4)]) hx hb dX6_safestSign_84 rfl hl (by decide) rfl (fun ls hl => ?_)
        refine lv_iinc (v := x4 + 1) (lv' := [(4, .int (x4 + 1)), (3, .int s0), (0, .ref (ad g 21 0)), (1, .int x1), (2, .int x2)]) hx hb dX6_safestSign_85 hl (k := 4) rfl rfl (by decide) rfl (fun ls hl => ?_)
        refine lv_goto (tgt := 7) hx hb dX6_safestSign_88 (by decide) ?_
        exact ih_7 _ _ _ _ _ _ _ hW (lv_sub hl [2, 3, 4, 1, 0] rfl) hf
      have P_72 : ∀ (x1 : Int32) (x3 : Int32) (x4 : Int32) (x6 : Int32) (x7 : Int32) (s0 : Int32) (H : Heap) (locs : List Loc) (ls : Array Slot), Wd g mm s H locs → lv_has ls 8 [(0, .ref (ad g 21 0)), (1, .int x1), (3, .int x3), (4, .int x4), (6, .int x6), (7, .int x7)] → jX6_safestSign_72 (lX6_safestSign_7 mm n7) mm x1 x3 x4 x6 x7 s0 = some r0 → W p l e rm_X6_safestSign s m args below meth c H locs 0 0 (MQ below (CI g mm r0) args s 0 0 (gA g)) (F0 m 72 ls [.int s0]) := by
        intro x1 x3 x4 x6 x7 s0 H locs ls hW hl hf
        unfold jX6_safestSign_72 at hf
        refine lv_istore_n (lv' := [(2, .int s0), (0, .ref (ad g 21 0)), (1, .int x1), (3, .int x3), (4, .int x4), (6, .int x6), (7, .int x7)]) hx hb dX6_safestSign_72 rfl hl (by decide) rfl (fun ls hl => ?_)
        refine lv_iload hx hb dX6_safestSign_73 (lv_at hl 6 rfl) ?_
        refine lv_if_eq (tgt := 83) hx hb dX6_safestSign_75 (by decide) (fun c20 => ?_) (fun c20 => ?_)
        · replace hf := ite_t hf c20
          refine lv_iload_n hx hb dX6_safestSign_83 rfl (lv_at hl 3 rfl) ?_
          exact P_84 _ _ _ _ _ _ _ hW (lv_sub hl [1, 2, 0, 4] rfl) hf
        · replace hf := ite_f hf c20
          refine lv_iload hx hb dX6_safestSign_78 (lv_at hl 5 rfl) ?_
          refine lv_goto (tgt := 84) hx hb dX6_safestSign_80 (by decide) ?_
          exact P_84 _ _ _ _ _ _ _ hW (lv_sub hl [1, 2, 0, 4] rfl) hf
      have P_59 : ∀ (x1 : Int32) (x2 : Int32) (x3 : Int32) (x4 : Int32) (x6 : Int32) (s0 : Int32) (H : Heap) (locs : List Loc) (ls : Array Slot), Wd g mm s H locs → lv_has ls 8 [(0, .ref (ad g 21 0)), (1, .int x1), (2, .int x2), (3, .int x3), (4, .int x4), (6, .int x6)] → jX6_safestSign_59 (lX6_safestSign_7 mm n7) mm x1 x2 x3 x4 x6 s0 = some r0 → W p l e rm_X6_safestSign s m args below meth c H locs 0 0 (MQ below (CI g mm r0) args s 0 0 (gA g)) (F0 m 59 ls [.int s0]) := by
        intro x1 x2 x3 x4 x6 s0 H locs ls hW hl hf
        unfold jX6_safestSign_59 at hf
        refine lv_istore (lv' := [(7, .int s0), (0, .ref (ad g 21 0)), (1, .int x1), (2, .int x2), (3, .int x3), (4, .int x4), (6, .int x6)]) hx hb dX6_safestSign_59 hl (by decide) rfl (fun ls hl => ?_)
        refine lv_iload hx hb dX6_safestSign_61 (lv_at hl 0 rfl) ?_
        refine lv_if_eq (tgt := 71) hx hb dX6_safestSign_63 (by decide) (fun c19 => ?_) (fun c19 => ?_)
        · replace hf := ite_t hf c19
          refine lv_iload_n hx hb dX6_safestSign_71 rfl (lv_at hl 3 rfl) ?_
          exact P_72 _ _ _ _ _ _ _ _ _ hW (lv_sub hl [1, 2, 4, 5, 6, 0] rfl) hf
        · replace hf := ite_f hf c19
          refine lv_iload hx hb dX6_safestSign_66 (lv_at hl 5 rfl) ?_
          refine lv_goto (tgt := 72) hx hb dX6_safestSign_68 (by decide) ?_
          exact P_72 _ _ _ _ _ _ _ _ _ hW (lv_sub hl [1, 2, 4, 5, 6, 0] rfl) hf
      have P_58 : ∀ (x1 : Int32) (x2 : Int32) (x3 : Int32) (x4 : Int32) (x6 : Int32) (H : Heap) (locs : List Loc) (ls : Array Slot), Wd g mm s H locs → lv_has ls 8 [(0, .ref (ad g 21 0)), (1, .int x1), (2, .int x2), (3, .int x3), (4, .int x4), (6, .int x6)] → jX6_safestSign_58 (lX6_safestSign_7 mm n7) mm x1 x2 x3 x4 x6 = some r0 → W p l e rm_X6_safestSign s m args below meth c H locs 0 0 (MQ below (CI g mm r0) args s 0 0 (gA g)) (F0 m 58 ls []) := by
        intro x1 x2 x3 x4 x6 H locs ls hW hl hf
        unfold jX6_safestSign_58 at hf
        refine lv_iconst (v := 0) hx hb dX6_safestSign_58 (by decide) ?_
        exact P_59 _ _ _ _ _ _ _ _ _ hW (lv_sub hl [0, 1, 2, 3, 4, 5] rfl) hf
      intro x1 x2 x3 x4 H locs ls hW hl hf
      rw [lX6_safestSign_7_s] at hf
      refine lv_iload hx hb dX6_safestSign_7 (lv_at hl 4 rfl) ?_
      refine lv_bipush (v := 18) hx hb dX6_safestSign_9 (by decide) ?_
      refine lv_icmp_ge (tgt := 91) hx hb dX6_safestSign_11 (by decide) (fun c18 => ?_) (fun c18 => ?_)
      · replace hf := ite_t hf c18
        refine lv_iload_n hx hb dX6_safestSign_91 rfl (lv_at hl 2 rfl) ?_
        exact e_i X hr hW (someinj hf) dX6_safestSign_92
      · replace hf := ite_f hf c18
        refine lv_iload hx hb dX6_safestSign_14 (lv_at hl 4 rfl) ?_
        obtain ⟨r2, e1, hf⟩ := bnd_ex hf
        refine k_i X hW (k_S (As := [.int x4]) (rest := []) X hW hml hl.1 (c_X6_segmentsOf l g hDW  _ mm _ e1) ⟨mw_1062, kw_X6_segmentsOf⟩ ⟨⟨rfl, rfl⟩, ko_X6_segmentsOf, ⟨Nat.le_of_ble_eq_true rfl, Nat.le_of_ble_eq_true rfl⟩⟩ rfl rfl (Nat.le_of_ble_eq_true rfl) dX6_safestSign_16 ⟨Nat.le_of_ble_eq_true rfl, Nat.le_of_ble_eq_true rfl⟩) (fun H locs hW => ?_)
        obtain ⟨r5, e4, hf⟩ := bnd_ex hf
        refine k_i X hW (k_S (As := [.int r2]) (rest := []) X hW hml hl.1 (c_X6_ones l g hDW  _ mm _ e4) ⟨mw_1077, kw_X6_ones⟩ ⟨⟨rfl, rfl⟩, ko_X6_ones, ⟨Nat.le_of_ble_eq_true rfl, Nat.le_of_ble_eq_true rfl⟩⟩ rfl rfl (Nat.le_of_ble_eq_true rfl) dX6_safestSign_19 ⟨Nat.le_of_ble_eq_true rfl, Nat.le_of_ble_eq_true rfl⟩) (fun H locs hW => ?_)
        refine lv_istore (lv' := [(5, .int r5), (0, .ref (ad g 21 0)), (1, .int x1), (2, .int x2), (3, .int x3), (4, .int x4)]) hx hb dX6_safestSign_22 hl (by decide) rfl (fun ls hl => ?_)
        refine lv_aload_n hx hb dX6_safestSign_24 rfl (lv_at hl 1 rfl) ?_
        refine lv_iload_n hx hb dX6_safestSign_25 rfl (lv_at hl 2 rfl) ?_
        refine lv_iload hx hb dX6_safestSign_26 (lv_at hl 5 rfl) ?_
        obtain ⟨r8, e7, hf⟩ := bnd_ex hf
        refine k_i X hW (k_S (As := [.int x4]) (rest := [.int x1, .ref (ad g 21 0)]) X hW hml hl.1 (c_X6_segmentsOf l g hDW  _ mm _ e7) ⟨mw_1062, kw_X6_segmentsOf⟩ ⟨⟨rfl, rfl⟩, ko_X6_segmentsOf, ⟨Nat.le_of_ble_eq_true rfl, Nat.le_of_ble_eq_true rfl⟩⟩ rfl rfl (Nat.le_of_ble_eq_true rfl) dX6_safestSign_28 ⟨Nat.le_of_ble_eq_true rfl, Nat.le_of_ble_eq_true rfl⟩) (fun H locs hW => ?_)
        obtain ⟨r11, e10, hf⟩ := bnd_ex hf
        refine k_i X hW (k_V (As := [.int x1, .int r8]) (rest := []) X hW hml hl.1 (c_X6_working l g hDW  _ _ mm _ e10) (r_recv X hW 21 0 (by decide) (by decide) rfl rfl) ⟨mw_1065, kw_X6_working⟩ ⟨⟨rfl, rfl⟩, ko_X6_working, ⟨Nat.le_of_ble_eq_true rfl, Nat.le_of_ble_eq_true rfl⟩⟩ rfl rfl (Nat.le_of_ble_eq_true rfl) dX6_safestSign_31 ⟨Nat.le_of_ble_eq_true rfl, Nat.le_of_ble_eq_true rfl⟩) (fun H locs hW => ?_)
        obtain ⟨r14, e13, hf⟩ := bnd_ex hf
        refine k_i X hW (k_S (As := [.int r11]) (rest := []) X hW hml hl.1 (c_X6_ones l g hDW  _ mm _ e13) ⟨mw_1077, kw_X6_ones⟩ ⟨⟨rfl, rfl⟩, ko_X6_ones, ⟨Nat.le_of_ble_eq_true rfl, Nat.le_of_ble_eq_true rfl⟩⟩ rfl rfl (Nat.le_of_ble_eq_true rfl) dX6_safestSign_34 ⟨Nat.le_of_ble_eq_true rfl, Nat.le_of_ble_eq_true rfl⟩) (fun H locs hW => ?_)
        refine lv_istore (lv' := [(6, .int r14), (5, .int r5), (0, .ref (ad g 21 0)), (1, .int x1), (2, .int x2), (3, .int x3), (4, .int x4)]) hx hb dX6_safestSign_37 hl (by decide) rfl (fun ls hl => ?_)
        refine lv_iload hx hb dX6_safestSign_39 (lv_at hl 1 rfl) ?_
        refine lv_iload hx hb dX6_safestSign_41 (lv_at hl 0 rfl) ?_
        refine lv_isub hx hb dX6_safestSign_43 ?_
        refine lv_iconst (v := 1) hx hb dX6_safestSign_44 (by decide) ?_
        refine lv_icmp_gt (tgt := 58) hx hb dX6_safestSign_45 (by decide) (fun c17 => ?_) (fun c17 => ?_)
        · replace hf := ite_t hf c17
          exact P_58 _ _ _ _ _ _ _ _ hW (lv_sub hl [2, 3, 4, 5, 6, 0] rfl) hf
        · replace hf := ite_f hf c17
          refine lv_iload hx hb dX6_safestSign_48 (lv_at hl 0 rfl) ?_
          refine lv_iload_n hx hb dX6_safestSign_50 rfl (lv_at hl 5 rfl) ?_
          refine lv_icmp_le (tgt := 58) hx hb dX6_safestSign_51 (by decide) (fun c16 => ?_) (fun c16 => ?_)
          · replace hf := ite_t hf c16
            exact P_58 _ _ _ _ _ _ _ _ hW (lv_sub hl [2, 3, 4, 5, 6, 0] rfl) hf
          · replace hf := ite_f hf c16
            refine lv_iconst (v := 1) hx hb dX6_safestSign_54 (by decide) ?_
            refine lv_goto (tgt := 59) hx hb dX6_safestSign_55 (by decide) ?_
            exact P_59 _ _ _ _ _ _ _ _ _ hW (lv_sub hl [2, 3, 4, 5, 6, 0] rfl) hf
  unfold fX6_safestSign at hf
  refine lv_iconst (v := -1) hx hb dX6_safestSign_0 (by decide) ?_
  refine lv_istore_n (lv' := [(2, .int (-1)), (0, .ref (ad g 21 0)), (1, .int x1)]) hx hb dX6_safestSign_1 rfl hl (by decide) rfl (fun ls hl => ?_)
  refine lv_iconst (v := -1) hx hb dX6_safestSign_2 (by decide) ?_
  refine lv_istore_n (lv' := [(3, .int (-1)), (2, .int (-1)), (0, .ref (ad g 21 0)), (1, .int x1)]) hx hb dX6_safestSign_3 rfl hl (by decide) rfl (fun ls hl => ?_)
  refine lv_iconst (v := 0) hx hb dX6_safestSign_4 (by decide) ?_
  refine lv_istore (lv' := [(4, .int 0), (3, .int (-1)), (2, .int (-1)), (0, .ref (ad g 21 0)), (1, .int x1)]) hx hb dX6_safestSign_5 hl (by decide) rfl (fun ls hl => ?_)
  exact P_7 _ _ _ _ _ _ _ _ hW (lv_sub hl [3, 4, 2, 1, 0] rfl) hf
