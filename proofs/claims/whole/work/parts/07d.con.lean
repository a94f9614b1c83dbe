set_option maxRecDepth 100000 in
set_option maxHeartbeats 4000000 in
theorem c_X6_ones (l : Launch) (g : gG) (hDW : DW g) (x0 : Int32) (mm : gM) (r0 : Int32) (hf : fX6_ones x0 = some r0) : Met l yX6_ones (Cond.code yX6_ones cX6_ones 3 (some .int) :: ALLW) rm_X6_ones (CPre g mm [.int x0]) (CI g mm r0) 0 0 (gA g) := by
  refine Met.ofW (cc := cX6_ones) (maxL := 3) (ret := (some .int)) (by decide) rfl ?_
  intro p e s m args below meth c s₁ B hml hv
  obtain ⟨ha, hFx, hP0, hlo⟩ := hv
  have X : Cx g p s m args c meth RX6 cX6_ones := Cx_of hDW hFx hlo B
  have hx := X.1
  have hb := X.2.1
  have hr := B.returns
  have hlocks := X.2.2.2.2.2.2.2
  have hW : Wd g mm s s.heap [] := ⟨hP0, va_S.rf⟩
  rw [ha, lg_entry_eq]
  have hl := lv_entry ([.int x0] : List Value) (n := 3) (Nat.le_of_ble_eq_true rfl)
  generalize (lg_sl ([.int x0] : List Value) ++ List.replicate (3 - (lg_sl ([.int x0] : List Value)).length) Slot.unset).toArray = ls at hl ⊢
  have hl : lv_has ls 3 [(0, .int x0)] := hl
  rw [← ha]
  show W p l e rm_X6_ones s m args below meth c s.heap [] 0 0 (MQ below (CI g mm r0) args s 0 0 (gA g)) (F0 m 0 ls [])
  have P_4 : ∀ (n4 : Nat) (x0 : Int32) (x1 : Int32) (x2 : Int32) (H : Heap) (locs : List Loc) (ls : Array Slot), Wd g mm s H locs → lv_has ls 3 [(0, .int x0), (1, .int x1), (2, .int x2)] → lX6_ones_4 n4 x0 x1 x2 = some r0 → W p l e rm_X6_ones s m args below meth c H locs 0 0 (MQ below (CI g mm r0) args s 0 0 (gA g)) (F0 m 4 ls []) := by
    intro n4
    induction n4 with
    | zero => intro x0 x1 x2 H locs ls hW hl hf; exact (no_some hf).elim
    | succ n4 ih_4 =>
      intro x0 x1 x2 H locs ls hW hl hf
      rw [lX6_ones_4_s] at hf
      refine lv_iload_n hx hb dX6_ones_4 rfl (lv_at hl 2 rfl) ?_
      refine lv_bipush (v := 8) hx hb dX6_ones_5 (by decide) ?_
      refine lv_icmp_ge (tgt := 24) hx hb dX6_ones_7 (by decide) (fun c2 => ?_) (fun c2 => ?_)
      · replace hf := ite_t hf c2
        refine lv_iload_n hx hb dX6_ones_24 rfl (lv_at hl 1 rfl) ?_
        exact e_i X hr hW (someinj hf) dX6_ones_25
      · replace hf := ite_f hf c2
        refine lv_iload_n hx hb dX6_ones_10 rfl (lv_at hl 1 rfl) ?_
        refine lv_iload_n hx hb dX6_ones_11 rfl (lv_at hl 0 rfl) ?_
        refine lv_iload_n hx hb dX6_ones_12 rfl (lv_at hl 2 rfl) ?_
        refine lv_ishr hx hb dX6_ones_13 ?_
        refine lv_iconst (v := 1) hx hb dX6_ones_14 (by decide) ?_
        refine lv_iand hx hb dX6_ones_15 ?_
        refine lv_iadd hx hb dX6_ones_16 ?_
        obtain ⟨v1, ex, hf⟩ := wth_ex hf
        refine lv_nm ex ?_
        clear ex
        refine lv_istore_n (lv' := [(1, .int v1), (0, .int x0), (2, .int x2)]) hx hb dX6_ones_17 rfl hl (by decide) rfl (fun ls hl => ?_)
        refine lv_iinc (v := x2 + 1) (lv' := [(2, .int (x2 + 1)), (1, .int v1), (0, .int x0)]) hx hb dX6_ones_18 hl (k := 2) rfl rfl (by decide) rfl (fun ls hl => ?_)
        refine lv_goto (tgt := 4) hx hb dX6_ones_21 (by decide) ?_
        exact ih_4 _ _ _ _ _ _ hW (lv_sub hl [2, 1, 0] rfl) hf
  unfold fX6_ones at hf
  refine lv_iconst (v := 0) hx hb dX6_ones_0 (by decide) ?_
  refine lv_istore_n (lv' := [(1, .int 0), (0, .int x0)]) hx hb dX6_ones_1 rfl hl (by decide) rfl (fun ls hl => ?_)
  refine lv_iconst (v := 0) hx hb dX6_ones_2 (by decide) ?_
  refine lv_istore_n (lv' := [(2, .int 0), (1, .int 0), (0, .int x0)]) hx hb dX6_ones_3 rfl hl (by decide) rfl (fun ls hl => ?_)
  exact P_4 _ _ _ _ _ _ _ hW (lv_sub hl [2, 1, 0] rfl) hf
set_option maxRecDepth 100000 in
set_option maxHeartbeats 4000000 in
theorem c_X6_saves (l : Launch) (g : gG) (hDW : DW g) (mm : gM) (mZ : gM) (hf : fX6_saves mm = some mZ) : Met l yX6_saves (Cond.code yX6_saves cX6_saves 2 none :: ALLW) rm_X6_saves (CPre g mm [.ref (ad g 21 0)]) (CV g mZ) 0 0 (gA g) := by
  refine Met.ofW (cc := cX6_saves) (maxL := 2) (ret := none) (by decide) rfl ?_
  intro p e s m args below meth c s₁ B hml hv
  obtain ⟨ha, hFx, hP0, hlo⟩ := hv
  have X : Cx g p s m args c meth RX6 cX6_saves := Cx_of hDW hFx hlo B
  have hx := X.1
  have hb := X.2.1
  have hr := B.returns
  have hlocks := X.2.2.2.2.2.2.2
  have hW : Wd g mm s s.heap [] := ⟨hP0, va_S.rf⟩
  rw [ha, lg_entry_eq]
  have hl := lv_entry ([.ref (ad g 21 0)] : List Value) (n := 2) (Nat.le_of_ble_eq_true rfl)
  generalize (lg_sl ([.ref (ad g 21 0)] : List Value) ++ List.replicate (2 - (lg_sl ([.ref (ad g 21 0)] : List Value)).length) Slot.unset).toArray = ls at hl ⊢
  have hl : lv_has ls 2 [(0, .ref (ad g 21 0))] := hl
  rw [← ha]
  show W p l e rm_X6_saves s m args below meth c s.heap [] 0 0 (MQ below (CV g mZ) args s 0 0 (gA g)) (F0 m 0 ls [])
  have P_83 : ∀ (mm : gM) (H : Heap) (locs : List Loc) (ls : Array Slot), Wd g mm s H locs → lv_has ls 2 [(0, .ref (ad g 21 0))] → jX6_saves_83 mm = some mZ → W p l e rm_X6_saves s m args below meth c H locs 0 0 (MQ below (CV g mZ) args s 0 0 (gA g)) (F0 m 83 ls []) := by
    intro mm H locs ls hW hl hf
    unfold jX6_saves_83 at hf
    refine lv_aload_n hx hb dX6_saves_83 rfl (lv_at hl 0 rfl) ?_
    refine lv_dup hx hb dX6_saves_84 rfl ?_
    refine gf_21_3 X hW (by decide) mw_950 dX6_saves_85 ?_
    refine lv_iconst (v := 1) hx hb dX6_saves_88 (by decide) ?_
    refine lv_iadd hx hb dX6_saves_89 ?_
    obtain ⟨m11, ex, hf⟩ := wth_ex hf
    refine pf_21_3 X hW (by decide) mw_950 dX6_saves_90 (fun H locs hW => ?_)
    replace hW := hW.same ex
    clear ex
    replace hW := hW.same (someinj hf).symm
    exact e_v X hr hW dX6_saves_93
  have P_51 : ∀ (n51 : Nat) (x1 : Int32) (mm : gM) (H : Heap) (locs : List Loc) (ls : Array Slot), Wd g mm s H locs → lv_has ls 2 [(0, .ref (ad g 21 0)), (1, .int x1)] → lX6_saves_51 n51 x1 mm = some mZ → W p l e rm_X6_saves s m args below meth c H locs 0 0 (MQ below (CV g mZ) args s 0 0 (gA g)) (F0 m 51 ls []) := by
    intro n51
    induction n51 with
    | zero => intro x1 mm H locs ls hW hl hf; exact (no_some hf).elim
    | succ n51 ih_51 =>
      intro x1 mm H locs ls hW hl hf
      rw [lX6_saves_51_s] at hf
      refine lv_iload_n hx hb dX6_saves_51 rfl (lv_at hl 1 rfl) ?_
      refine lv_bipush (v := 80) hx hb dX6_saves_52 (by decide) ?_
      refine lv_icmp_ge (tgt := 83) hx hb dX6_saves_54 (by decide) (fun c9 => ?_) (fun c9 => ?_)
      · replace hf := ite_t hf c9
        exact P_83 _ _ _ _ hW (lv_sub hl [0] rfl) hf
      · replace hf := ite_f hf c9
        refine lv_aload_n hx hb dX6_saves_57 rfl (lv_at hl 0 rfl) ?_
        refine gf_21_2 X hW (by decide) mw_949 dX6_saves_58 ?_
        refine lv_bipush (v := 80) hx hb dX6_saves_61 (by decide) ?_
        refine lv_aload_n hx hb dX6_saves_63 rfl (lv_at hl 0 rfl) ?_
        refine gf_21_3 X hW (by decide) mw_950 dX6_saves_64 ?_
        refine lv_imul hx hb dX6_saves_67 ?_
        refine lv_iload_n hx hb dX6_saves_68 rfl (lv_at hl 1 rfl) ?_
        refine lv_iadd hx hb dX6_saves_69 ?_
        refine lv_aload_n hx hb dX6_saves_70 rfl (lv_at hl 0 rfl) ?_
        refine gf_21_1 X hW (by decide) mw_948 dX6_saves_71 ?_
        refine lv_iload_n hx hb dX6_saves_74 rfl (lv_at hl 1 rfl) ?_
        obtain ⟨b6, hf⟩ := chk_ex hf
        refine r_iald X hW 22 0 (by decide) (by decide) rfl b6 dX6_saves_75 ?_
        obtain ⟨b7, hf⟩ := chk_ex hf
        obtain ⟨m8, ex, hf⟩ := wth_ex hf
        refine r_iast X hW 23 0 (by decide) (by decide) (fun _ => rfl) b7 dX6_saves_76 (fun H locs hW => ?_)
        replace hW := hW.same ex
        clear ex
        refine lv_iinc (v := x1 + 1) (lv' := [(1, .int (x1 + 1)), (0, .ref (ad g 21 0))]) hx hb dX6_saves_77 hl (k := 1) rfl rfl (by decide) rfl (fun ls hl => ?_)
        refine lv_goto (tgt := 51) hx hb dX6_saves_80 (by decide) ?_
        exact ih_51 _ _ _ _ _ hW (lv_sub hl [1, 0] rfl) hf
  have P_49 : ∀ (mm : gM) (H : Heap) (locs : List Loc) (ls : Array Slot), Wd g mm s H locs → lv_has ls 2 [(0, .ref (ad g 21 0))] → jX6_saves_49 mm = some mZ → W p l e rm_X6_saves s m args below meth c H locs 0 0 (MQ below (CV g mZ) args s 0 0 (gA g)) (F0 m 49 ls []) := by
    intro mm H locs ls hW hl hf
    unfold jX6_saves_49 at hf
    refine lv_iconst (v := 0) hx hb dX6_saves_49 (by decide) ?_
    refine lv_istore_n (lv' := [(1, .int 0), (0, .ref (ad g 21 0))]) hx hb dX6_saves_50 rfl hl (by decide) rfl (fun ls hl => ?_)
    exact P_51 _ _ _ _ _ _ hW (lv_sub hl [1, 0] rfl) hf
  have P_39 : ∀ (mm : gM) (H : Heap) (locs : List Loc) (ls : Array Slot), Wd g mm s H locs → lv_has ls 2 [(0, .ref (ad g 21 0))] → jX6_saves_39 mm = some mZ → W p l e rm_X6_saves s m args below meth c H locs 0 0 (MQ below (CV g mZ) args s 0 0 (gA g)) (F0 m 39 ls []) := by
    intro mm H locs ls hW hl hf
    unfold jX6_saves_39 at hf
    refine lv_aload_n hx hb dX6_saves_39 rfl (lv_at hl 0 rfl) ?_
    refine lv_dup hx hb dX6_saves_40 rfl ?_
    refine gf_21_3 X hW (by decide) mw_950 dX6_saves_41 ?_
    refine lv_iconst (v := 1) hx hb dX6_saves_44 (by decide) ?_
    refine lv_isub hx hb dX6_saves_45 ?_
    obtain ⟨m10, ex, hf⟩ := wth_ex hf
    refine pf_21_3 X hW (by decide) mw_950 dX6_saves_46 (fun H locs hW => ?_)
    replace hW := hW.same ex
    clear ex
    exact P_49 _ _ _ _ hW (lv_sub hl [0] rfl) hf
  have P_11 : ∀ (n11 : Nat) (x1 : Int32) (mm : gM) (H : Heap) (locs : List Loc) (ls : Array Slot), Wd g mm s H locs → lv_has ls 2 [(0, .ref (ad g 21 0)), (1, .int x1)] → lX6_saves_11 n11 x1 mm = some mZ → W p l e rm_X6_saves s m args below meth c H locs 0 0 (MQ below (CV g mZ) args s 0 0 (gA g)) (F0 m 11 ls []) := by
    intro n11
    induction n11 with
    | zero => intro x1 mm H locs ls hW hl hf; exact (no_some hf).elim
    | succ n11 ih_11 =>
      intro x1 mm H locs ls hW hl hf
      rw [lX6_saves_11_s] at hf
      refine lv_iload_n hx hb dX6_saves_11 rfl (lv_at hl 1 rfl) ?_
      refine lv_sipush (v := 400) hx hb dX6_saves_12 (by decide) ?_
      refine lv_icmp_ge (tgt := 39) hx hb dX6_saves_15 (by decide) (fun c5 => ?_) (fun c5 => ?_)
      · replace hf := ite_t hf c5
        exact P_39 _ _ _ _ hW (lv_sub hl [0] rfl) hf
      · replace hf := ite_f hf c5
        refine lv_aload_n hx hb dX6_saves_18 rfl (lv_at hl 0 rfl) ?_
        refine gf_21_2 X hW (by decide) mw_949 dX6_saves_19 ?_
        refine lv_iload_n hx hb dX6_saves_22 rfl (lv_at hl 1 rfl) ?_
        refine lv_aload_n hx hb dX6_saves_23 rfl (lv_at hl 0 rfl) ?_
        refine gf_21_2 X hW (by decide) mw_949 dX6_saves_24 ?_
        refine lv_iload_n hx hb dX6_saves_27 rfl (lv_at hl 1 rfl) ?_
        refine lv_bipush (v := 80) hx hb dX6_saves_28 (by decide) ?_
        refine lv_iadd hx hb dX6_saves_30 ?_
        obtain ⟨b2, hf⟩ := chk_ex hf
        refine r_iald X hW 23 0 (by decide) (by decide) rfl b2 dX6_saves_31 ?_
        obtain ⟨b3, hf⟩ := chk_ex hf
        obtain ⟨m4, ex, hf⟩ := wth_ex hf
        refine r_iast X hW 23 0 (by decide) (by decide) (fun _ => rfl) b3 dX6_saves_32 (fun H locs hW => ?_)
        replace hW := hW.same ex
        clear ex
        refine lv_iinc (v := x1 + 1) (lv' := [(1, .int (x1 + 1)), (0, .ref (ad g 21 0))]) hx hb dX6_saves_33 hl (k := 1) rfl rfl (by decide) rfl (fun ls hl => ?_)
        refine lv_goto (tgt := 11) hx hb dX6_saves_36 (by decide) ?_
        exact ih_11 _ _ _ _ _ hW (lv_sub hl [1, 0] rfl) hf
  unfold fX6_saves at hf
  refine lv_aload_n hx hb dX6_saves_0 rfl (lv_at hl 0 rfl) ?_
  refine gf_21_3 X hW (by decide) mw_950 dX6_saves_1 ?_
  refine lv_bipush (v := 6) hx hb dX6_saves_4 (by decide) ?_
  refine lv_icmp_ne (tgt := 49) hx hb dX6_saves_6 (by decide) (fun c1 => ?_) (fun c1 => ?_)
  · replace hf := ite_f hf c1
    exact P_49 _ _ _ _ hW (lv_sub hl [0] rfl) hf
  · replace hf := ite_t hf c1
    refine lv_iconst (v := 0) hx hb dX6_saves_9 (by decide) ?_
    refine lv_istore_n (lv' := [(1, .int 0), (0, .ref (ad g 21 0))]) hx hb dX6_saves_10 rfl hl (by decide) rfl (fun ls hl => ?_)
    exact P_11 _ _ _ _ _ _ hW (lv_sub hl [1, 0] rfl) hf
set_option maxRecDepth 100000 in
set_option maxHeartbeats 4000000 in
theorem c_X6_segmentsOf (l : Launch) (g : gG) (hDW : DW g) (x0 : Int32) (mm : gM) (r0 : Int32) (hf : fX6_segmentsOf x0 = some r0) : Met l yX6_segmentsOf (Cond.code yX6_segmentsOf cX6_segmentsOf 1 (some .int) :: ALLW) rm_X6_segmentsOf (CPre g mm [.int x0]) (CI g mm r0) 0 0 (gA g) := by
  refine Met.ofW (cc := cX6_segmentsOf) (maxL := 1) (ret := (some .int)) (by decide) rfl ?_
  intro p e s m args below meth c s₁ B hml hv
  obtain ⟨ha, hFx, hP0, hlo⟩ := hv
  have X : Cx g p s m args c meth RX6 cX6_segmentsOf := Cx_of hDW hFx hlo B
  have hx := X.1
  have hb := X.2.1
  have hr := B.returns
  have hlocks := X.2.2.2.2.2.2.2
  have hW : Wd g mm s s.heap [] := ⟨hP0, va_S.rf⟩
  rw [ha, lg_entry_eq]
  have hl := lv_entry ([.int x0] : List Value) (n := 1) (Nat.le_of_ble_eq_true rfl)
  generalize (lg_sl ([.int x0] : List Value) ++ List.replicate (1 - (lg_sl ([.int x0] : List Value)).length) Slot.unset).toArray = ls at hl ⊢
  have hl : lv_has ls 1 [(0, .int x0)] := hl
  rw [← ha]
  show W p l e rm_X6_segmentsOf s m args below meth c s.heap [] 0 0 (MQ below (CI g mm r0) args s 0 0 (gA g)) (F0 m 0 ls [])
  unfold fX6_segmentsOf at hf
  refine lv_iload_n hx hb dX6_segmentsOf_0 rfl (lv_at hl 0 rfl) ?_
  by_cases c1 : x0 = 0
  · replace hf := ite_t hf c1
    refine lv_tableIn (off := 83) (tgt := 84) hx hb dX6_segmentsOf_1 (by rw [c1]; decide) (by rw [c1]; decide) (by rw [c1]; rfl) (by decide) ?_
    refine lv_bipush (v := 63) hx hb dX6_segmentsOf_84 (by decide) ?_
    exact e_i X hr hW (someinj hf) dX6_segmentsOf_86
  · replace hf := ite_f hf c1
    by_cases c2 : x0 = 1
    · replace hf := ite_t hf c2
      refine lv_tableIn (off := 86) (tgt := 87) hx hb dX6_segmentsOf_1 (by rw [c2]; decide) (by rw [c2]; decide) (by rw [c2]; rfl) (by decide) ?_
      refine lv_bipush (v := 6) hx hb dX6_segmentsOf_87 (by decide) ?_
      exact e_i X hr hW (someinj hf) dX6_segmentsOf_89
    · replace hf := ite_f hf c2
      by_cases c3 : x0 = 2
      · replace hf := ite_t hf c3
        refine lv_tableIn (off := 89) (tgt := 90) hx hb dX6_segmentsOf_1 (by rw [c3]; decide) (by rw [c3]; decide) (by rw [c3]; rfl) (by decide) ?_
        refine lv_bipush (v := 91) hx hb dX6_segmentsOf_90 (by decide) ?_
        exact e_i X hr hW (someinj hf) dX6_segmentsOf_92
      · replace hf := ite_f hf c3
        by_cases c4 : x0 = 3
        · replace hf := ite_t hf c4
          refine lv_tableIn (off := 92) (tgt := 93) hx hb dX6_segmentsOf_1 (by rw [c4]; decide) (by rw [c4]; decide) (by rw [c4]; rfl) (by decide) ?_
          refine lv_bipush (v := 79) hx hb dX6_segmentsOf_93 (by decide) ?_
          exact e_i X hr hW (someinj hf) dX6_segmentsOf_95
        · replace hf := ite_f hf c4
          by_cases c5 : x0 = 4
          · replace hf := ite_t hf c5
            refine lv_tableIn (off := 95) (tgt := 96) hx hb dX6_segmentsOf_1 (by rw [c5]; decide) (by rw [c5]; decide) (by rw [c5]; rfl) (by decide) ?_
            refine lv_bipush (v := 102) hx hb dX6_segmentsOf_96 (by decide) ?_
            exact e_i X hr hW (someinj hf) dX6_segmentsOf_98
          · replace hf := ite_f hf c5
            by_cases c6 : x0 = 5
            · replace hf := ite_t hf c6
              refine lv_tableIn (off := 98) (tgt := 99) hx hb dX6_segmentsOf_1 (by rw [c6]; decide) (by rw [c6]; decide) (by rw [c6]; rfl) (by decide) ?_
              refine lv_bipush (v := 109) hx hb dX6_segmentsOf_99 (by decide) ?_
              exact e_i X hr hW (someinj hf) dX6_segmentsOf_101
            · replace hf := ite_f hf c6
              by_cases c7 : x0 = 6
              · replace hf := ite_t hf c7
                refine lv_tableIn (off := 101) (tgt := 102) hx hb dX6_segmentsOf_1 (by rw [c7]; decide) (by rw [c7]; decide) (by rw [c7]; rfl) (by decide) ?_
                refine lv_bipush (v := 125) hx hb dX6_segmentsOf_102 (by decide) ?_
                exact e_i X hr hW (someinj hf) dX6_segmentsOf_104
              · replace hf := ite_f hf c7
                by_cases c8 : x0 = 7
                · replace hf := ite_t hf c8
                  refine lv_tableIn (off := 104) (tgt := 105) hx hb dX6_segmentsOf_1 (by rw [c8]; decide) (by rw [c8]; decide) (by rw [c8]; rfl) (by decide) ?_
                  refine lv_bipush (v := 7) hx hb dX6_segmentsOf_105 (by decide) ?_
                  exact e_i X hr hW (someinj hf) dX6_segmentsOf_107
                · replace hf := ite_f hf c8
                  by_cases c9 : x0 = 8
                  · replace hf := ite_t hf c9
                    refine lv_tableIn (off := 107) (tgt := 108) hx hb dX6_segmentsOf_1 (by rw [c9]; decide) (by rw [c9]; decide) (by rw [c9]; rfl) (by decide) ?_
                    refine lv_bipush (v := 127) hx hb dX6_segmentsOf_108 (by decide) ?_
                    exact e_i X hr hW (someinj hf) dX6_segmentsOf_110
                  · replace hf := ite_f hf c9
                    by_cases c10 : x0 = 9
                    · replace hf := ite_t hf c10
                      refine lv_tableIn (off := 110) (tgt := 111) hx hb dX6_segmentsOf_1 (by rw [c10]; decide) (by rw [c10]; decide) (by rw [c10]; rfl) (by decide) ?_
                      refine lv_bipush (v := 111) hx hb dX6_segmentsOf_111 (by decide) ?_
                      exact e_i X hr hW (someinj hf) dX6_segmentsOf_113
                    · replace hf := ite_f hf c10
                      by_cases c11 : x0 = 10
                      · replace hf := ite_t hf c11
                        refine lv_tableIn (off := 113) (tgt := 114) hx hb dX6_segmentsOf_1 (by rw [c11]; decide) (by rw [c11]; decide) (by rw [c11]; rfl) (by decide) ?_
                        refine lv_bipush (v := 119) hx hb dX6_segmentsOf_114 (by decide) ?_
                        exact e_i X hr hW (someinj hf) dX6_segmentsOf_116
                      · replace hf := ite_f hf c11
                        by_cases c12 : x0 = 11
                        · replace hf := ite_t hf c12
                          refine lv_tableIn (off := 116) (tgt := 117) hx hb dX6_segmentsOf_1 (by rw [c12]; decide) (by rw [c12]; decide) (by rw [c12]; rfl) (by decide) ?_
                          refine lv_bipush (v := 124) hx hb dX6_segmentsOf_117 (by decide) ?_
                          exact e_i X hr hW (someinj hf) dX6_segmentsOf_119
                        · replace hf := ite_f hf c12
                          by_cases c13 : x0 = 12
                          · replace hf := ite_t hf c13
                            refine lv_tableIn (off := 119) (tgt := 120) hx hb dX6_segmentsOf_1 (by rw [c13]; decide) (by rw [c13]; decide) (by rw [c13]; rfl) (by decide) ?_
                            refine lv_bipush (v := 57) hx hb dX6_segmentsOf_120 (by decide) ?_
                            exact e_i X hr hW (someinj hf) dX6_segmentsOf_122
                          · replace hf := ite_f hf c13
                            by_cases c14 : x0 = 13
                            · replace hf := ite_t hf c14
                              refine lv_tableIn (off := 122) (tgt := 123) hx hb dX6_segmentsOf_1 (by rw [c14]; decide) (by rw [c14]; decide) (by rw [c14]; rfl) (by decide) ?_
                              refine lv_bipush (v := 94) hx hb dX6_segmentsOf_123 (by decide) ?_
                              exact e_i X hr hW (someinj hf) dX6_segmentsOf_125
                            · replace hf := ite_f hf c14
                              by_cases c15 : x0 = 14
                              · replace hf := ite_t hf c15
                                refine lv_tableIn (off := 125) (tgt := 126) hx hb dX6_segmentsOf_1 (by rw [c15]; decide) (by rw [c15]; decide) (by rw [c15]; rfl) (by decide) ?_
                                refine lv_bipush (v := 121) hx hb dX6_segmentsOf_126 (by decide) ?_
                                exact e_i X hr hW (someinj hf) dX6_segmentsOf_128
                              · replace hf := ite_f hf c15
                                by_cases c16 : x0 = 15
                                · replace hf := ite_t hf c16
                                  refine lv_tableIn (off := 128) (tgt := 129) hx hb dX6_segmentsOf_1 (by rw [c16]; decide) (by rw [c16]; decide) (by rw [c16]; rfl) (by decide) ?_
                                  refine lv_bipush (v := 113) hx hb dX6_segmentsOf_129 (by decide) ?_
                                  exact e_i X hr hW (someinj hf) dX6_segmentsOf_131
                                · replace hf := ite_f hf c16
                                  by_cases c17 : x0 = 16
                                  · replace hf := ite_t hf c17
                                    refine lv_tableIn (off := 131) (tgt := 132) hx hb dX6_segmentsOf_1 (by rw [c17]; decide) (by rw [c17]; decide) (by rw [c17]; rfl) (by decide) ?_
                                    refine lv_bipush (v := 64) hx hb dX6_segmentsOf_132 (by decide) ?_
                                    exact e_i X hr hW (someinj hf) dX6_segmentsOf_134
                                  · replace hf := ite_f hf c17
                                    refine lv_tableOut (tgt := 135) hx hb dX6_segmentsOf_1 (tb_out0_17 c1 c2 c3 c4 c5 c6 c7 c8 c9 c10 c11 c12 c13 c14 c15 c16 c17) (by decide) ?_
                                    refine lv_iconst (v := 0) hx hb dX6_segmentsOf_135 (by decide) ?_
                                    exact e_i X hr hW (someinj hf) dX6_segmentsOf_136
set_option maxRecDepth 100000 in
set_option maxHeartbeats 4000000 in
theorem c_X6_working (l : Launch) (g : gG) (hDW : DW g) (x1 : Int32) (x2 : Int32) (mm : gM) (r0 : Int32) (hf : fX6_working x1 x2 mm = some r0) : Met l yX6_working (Cond.code yX6_working cX6_working 3 (some .int) :: ALLW) rm_X6_working (CPre g mm [.ref (ad g 21 0), .int x1, .int x2]) (CI g mm r0) 0 0 (gA g) := by
  refine Met.ofW (cc := cX6_working) (maxL := 3) (ret := (some .int)) (by decide) rfl ?_
  intro p e s m args below meth c s₁ B hml hv
  obtain ⟨ha, hFx, hP0, hlo⟩ := hv
  have X : Cx g p s m args c meth RX6 cX6_working := Cx_of hDW hFx hlo B
  have hx := X.1
  have hb := X.2.1
  have hr := B.returns
  have hlocks := X.2.2.2.2.2.2.2
  have hW : Wd g mm s s.heap [] := ⟨hP0, va_S.rf⟩
  rw [ha, lg_entry_eq]
  have hl := lv_entry ([.ref (ad g 21 0), .int x1, .int x2] : List Value) (n := 3) (Nat.le_of_ble_eq_true rfl)
  generalize (lg_sl ([.ref (ad g 21 0), .int x1, .int x2] : List Value) ++ List.replicate (3 - (lg_sl ([.ref (ad g 21 0), .int x1, .int x2] : List Value)).length) Slot.unset).toArray = ls at hl ⊢
  have hl : lv_has ls 3 [(0, .ref (ad g 21 0)), (1, .int x1), (2, .int x2)] := hl
  rw [← ha]
  show W p l e rm_X6_working s m args below meth c s.heap [] 0 0 (MQ below (CI g mm r0) args s 0 0 (gA g)) (F0 m 0 ls [])
  unfold fX6_working at hf
  refine lv_iload_n hx hb dX6_working_0 rfl (lv_at hl 2 rfl) ?_
  refine lv_aload_n hx hb dX6_working_1 rfl (lv_at hl 0 rfl) ?_
  refine lv_iload_n hx hb dX6_working_2 rfl (lv_at hl 1 rfl) ?_
  refine lv_iconst (v := 3) hx hb dX6_working_3 (by decide) ?_
  obtain ⟨r2, e1, hf⟩ := bnd_ex hf
  refine k_i X hW (k_V (As := [.int x1, .int 3]) (rest := [.int x2]) X hW hml hl.1 (c_X6_of l g hDW  _ _ mm _ e1) (r_recv X hW 21 0 (by decide) (by decide) rfl rfl) ⟨mw_1027, kw_X6_of⟩ ⟨⟨rfl, rfl⟩, ko_X6_of, ⟨Nat.le_of_ble_eq_true rfl, Nat.le_of_ble_eq_true rfl⟩⟩ rfl rfl (Nat.le_of_ble_eq_true rfl) dX6_working_4 ⟨Nat.le_of_ble_eq_true rfl, Nat.le_of_ble_eq_true rfl⟩) (fun H locs hW => ?_)
  refine lv_iconst (v := -1) hx hb dX6_working_7 (by decide) ?_
  refine lv_ixor hx hb dX6_working_8 ?_
  refine lv_iand hx hb dX6_working_9 ?_
  refine lv_aload_n hx hb dX6_working_10 rfl (lv_at hl 0 rfl) ?_
  refine gf_21_1 X hW (by decide) mw_948 dX6_working_11 ?_
  refine lv_iconst (v := 4) hx hb dX6_working_14 (by decide) ?_
  obtain ⟨b4, hf⟩ := chk_ex hf
  refine r_iald X hW 22 0 (by decide) (by decide) rfl b4 dX6_working_15 ?_
  refine lv_iconst (v := -1) hx hb dX6_working_16 (by decide) ?_
  refine lv_ixor hx hb dX6_working_17 ?_
  refine lv_iand hx hb dX6_working_18 ?_
  exact e_i X hr hW (someinj hf) dX6_working_19
set_option maxRecDepth 100000 in
set_option maxHeartbeats 4000000 in
theorem c_X6_works (l : Launch) (g : gG) (hDW : DW g) (x1 : Int32) (mm : gM) (r0 : Int32) (hf : fX6_works x1 mm = some r0) : Met l yX6_works (Cond.code yX6_works cX6_works 2 (some .int) :: ALLW) rm_X6_works (CPre g mm [.ref (ad g 21 0), .int x1]) (CI g mm r0) 0 0 (gA g) := by
  refine Met.ofW (cc := cX6_works) (maxL := 2) (ret := (some .int)) (by decide) rfl ?_
  intro p e s m args below meth c s₁ B hml hv
  obtain ⟨ha, hFx, hP0, hlo⟩ := hv
  have X : Cx g p s m args c meth RX6 cX6_works := Cx_of hDW hFx hlo B
  have hx := X.1
  have hb := X.2.1
  have hr := B.returns
  have hlocks := X.2.2.2.2.2.2.2
  have hW : Wd g mm s s.heap [] := ⟨hP0, va_S.rf⟩
  rw [ha, lg_entry_eq]
  have hl := lv_entry ([.ref (ad g 21 0), .int x1] : List Value) (n := 2) (Nat.le_of_ble_eq_true rfl)
  generalize (lg_sl ([.ref (ad g 21 0), .int x1] : List Value) ++ List.replicate (2 - (lg_sl ([.ref (ad g 21 0), .int x1] : List Value)).length) Slot.unset).toArray = ls at hl ⊢
  have hl : lv_has ls 2 [(0, .ref (ad g 21 0)), (1, .int x1)] := hl
  rw [← ha]
  show W p l e rm_X6_works s m args below meth c s.heap [] 0 0 (MQ below (CI g mm r0) args s 0 0 (gA g)) (F0 m 0 ls [])
  unfold fX6_works at hf
  refine lv_aload_n hx hb dX6_works_0 rfl (lv_at hl 0 rfl) ?_
  refine lv_iload_n hx hb dX6_works_1 rfl (lv_at hl 1 rfl) ?_
  refine lv_aload_n hx hb dX6_works_2 rfl (lv_at hl 0 rfl) ?_
  refine lv_iload_n hx hb dX6_works_3 rfl (lv_at hl 1 rfl) ?_
  refine lv_iconst (v := 0) hx hb dX6_works_4 (by decide) ?_
  obtain ⟨r2, e1, hf⟩ := bnd_ex hf
  refine k_i X hW (k_V (As := [.int x1, .int 0]) (rest := [.int x1, .ref (ad g 21 0)]) X hW hml hl.1 (c_X6_of l g hDW  _ _ mm _ e1) (r_recv X hW 21 0 (by decide) (by decide) rfl rfl) ⟨mw_1027, kw_X6_of⟩ ⟨⟨rfl, rfl⟩, ko_X6_of, ⟨Nat.le_of_ble_eq_true rfl, Nat.le_of_ble_eq_true rfl⟩⟩ rfl rfl (Nat.le_of_ble_eq_true rfl) dX6_works_5 ⟨Nat.le_of_ble_eq_true rfl, Nat.le_of_ble_eq_true rfl⟩) (fun H locs hW => ?_)
  obtain ⟨r5, e4, hf⟩ := bnd_ex hf
  refine k_i X hW (k_S (As := [.int r2]) (rest := [.int x1, .ref (ad g 21 0)]) X hW hml hl.1 (c_X6_segmentsOf l g hDW  _ mm _ e4) ⟨mw_1062, kw_X6_segmentsOf⟩ ⟨⟨rfl, rfl⟩, ko_X6_segmentsOf, ⟨Nat.le_of_ble_eq_true rfl, Nat.le_of_ble_eq_true rfl⟩⟩ rfl rfl (Nat.le_of_ble_eq_true rfl) dX6_works_8 ⟨Nat.le_of_ble_eq_true rfl, Nat.le_of_ble_eq_true rfl⟩) (fun H locs hW => ?_)
  refine lv_sipush (v := 128) hx hb dX6_works_11 (by decide) ?_
  refine lv_aload_n hx hb dX6_works_14 rfl (lv_at hl 0 rfl) ?_
  refine lv_iload_n hx hb dX6_works_15 rfl (lv_at hl 1 rfl) ?_
  refine lv_iconst (v := 1) hx hb dX6_works_16 (by decide) ?_
  obtain ⟨r8, e7, hf⟩ := bnd_ex hf
  refine k_i X hW (k_V (As := [.int x1, .int 1]) (rest := [.int 128, .int r5, .int x1, .ref (ad g 21 0)]) X hW hml hl.1 (c_X6_of l g hDW  _ _ mm _ e7) (r_recv X hW 21 0 (by decide) (by decide) rfl rfl) ⟨mw_1027, kw_X6_of⟩ ⟨⟨rfl, rfl⟩, ko_X6_of, ⟨Nat.le_of_ble_eq_true rfl, Nat.le_of_ble_eq_true rfl⟩⟩ rfl rfl (Nat.le_of_ble_eq_true rfl) dX6_works_17 ⟨Nat.le_of_ble_eq_true rfl, Nat.le_of_ble_eq_true rfl⟩) (fun H locs hW => ?_)
  refine lv_imul hx hb dX6_works_20 ?_
  refine lv_iadd hx hb dX6_works_21 ?_
  obtain ⟨r11, e10, hf⟩ := bnd_ex hf
  refine k_i X hW (k_V (As := [.int x1, .int (r5 + (128 * r8))]) (rest := []) X hW hml hl.1 (c_X6_working l g hDW  _ _ mm _ e10) (r_recv X hW 21 0 (by decide) (by decide) rfl rfl) ⟨mw_1065, kw_X6_working⟩ ⟨⟨rfl, rfl⟩, ko_X6_working, ⟨Nat.le_of_ble_eq_true rfl, Nat.le_of_ble_eq_true rfl⟩⟩ rfl rfl (Nat.le_of_ble_eq_true rfl) dX6_works_22 ⟨Nat.le_of_ble_eq_true rfl, Nat.le_of_ble_eq_true rfl⟩) (fun H locs hW => ?_)
  exact e_i X hr hW (someinj hf) dX6_works_25
set_option maxRecDepth 100000 in
set_option maxHeartbeats 4000000 in
theorem c_X6_light (l : Launch) (g : gG) (hDW : DW g) (x1 : Int32) (mm : gM) (r0 : Int32) (hf : fX6_light x1 mm = some r0) : Met l yX6_light (Cond.code yX6_light cX6_light 3 (some .int) :: ALLW) rm_X6_light (CPre g mm [.ref (ad g 21 0), .int x1]) (CI g mm r0) 0 0 (gA g) := by
  refine Met.ofW (cc := cX6_light) (maxL := 3) (ret := (some .int)) (by decide) rfl ?_
  intro p e s m args below meth c s₁ B hml hv
  obtain ⟨ha, hFx, hP0, hlo⟩ := hv
  have X : Cx g p s m args c meth RX6 cX6_light := Cx_of hDW hFx hlo B
  have hx := X.1
  have hb := X.2.1
  have hr := B.returns
  have hlocks := X.2.2.2.2.2.2.2
  have hW : Wd g mm s s.heap [] := ⟨hP0, va_S.rf⟩
  rw [ha, lg_entry_eq]
  have hl := lv_entry ([.ref (ad g 21 0), .int x1] : List Value) (n := 3) (Nat.le_of_ble_eq_true rfl)
  generalize (lg_sl ([.ref (ad g 21 0), .int x1] : List Value) ++ List.replicate (3 - (lg_sl ([.ref (ad g 21 0), .int x1] : List Value)).length) Slot.unset).toArray = ls at hl ⊢
  have hl : lv_has ls 3 [(0, .ref (ad g 21 0)), (1, .int x1)] := hl
  rw [← ha]
  show W p l e rm_X6_light s m args below meth c s.heap [] 0 0 (MQ below (CI g mm r0) args s 0 0 (gA g)) (F0 m 0 ls [])
  unfold fX6_light at hf
  refine lv_aload_n hx hb dX6_light_0 rfl (lv_at hl 0 rfl) ?_
  refine lv_iload_n hx hb dX6_light_1 rfl (lv_at hl 1 rfl) ?_
  obtain ⟨r2, e1, hf⟩ := bnd_ex hf
  refine k_i X hW (k_V (As := [.int x1]) (rest := []) X hW hml hl.1 (c_X6_works l g hDW  _ mm _ e1) (r_recv X hW 21 0 (by decide) (by decide) rfl rfl) ⟨mw_1058, kw_X6_works⟩ ⟨⟨rfl, rfl⟩, ko_X6_works, ⟨Nat.le_of_ble_eq_true rfl, Nat.le_of_ble_eq_true rfl⟩⟩ rfl rfl (Nat.le_of_ble_eq_true rfl) dX6_light_2 ⟨Nat.le_of_ble_eq_true rfl, Nat.le_of_ble_eq_true rfl⟩) (fun H locs hW => ?_)
  obtain ⟨r5, e4, hf⟩ := bnd_ex hf
  refine k_i X hW (k_S (As := [.int r2]) (rest := []) X hW hml hl.1 (c_X6_ones l g hDW  _ mm _ e4) ⟨mw_1077, kw_X6_ones⟩ ⟨⟨rfl, rfl⟩, ko_X6_ones, ⟨Nat.le_of_ble_eq_true rfl, Nat.le_of_ble_eq_true rfl⟩⟩ rfl rfl (Nat.le_of_ble_eq_true rfl) dX6_light_5 ⟨Nat.le_of_ble_eq_true rfl, Nat.le_of_ble_eq_true rfl⟩) (fun H locs hW => ?_)
  refine lv_istore_n (lv' := [(2, .int r5), (0, .ref (ad g 21 0)), (1, .int x1)]) hx hb dX6_light_8 rfl hl (by decide) rfl (fun ls hl => ?_)
  refine lv_iload_n hx hb dX6_light_9 rfl (lv_at hl 0 rfl) ?_
  refine lv_if_ne (tgt := 17) hx hb dX6_light_10 (by decide) (fun c9 => ?_) (fun c9 => ?_)
  · replace hf := ite_f hf c9
    refine lv_aload_n hx hb dX6_light_17 rfl (lv_at hl 1 rfl) ?_
    refine gf_21_1 X hW (by decide) mw_948 dX6_light_18 ?_
    refine lv_iconst (v := 1) hx hb dX6_light_21 (by decide) ?_
    obtain ⟨b7, hf⟩ := chk_ex hf
    refine r_iald X hW 22 0 (by decide) (by decide) rfl b7 dX6_light_22 ?_
    refine lv_iload_n hx hb dX6_light_23 rfl (lv_at hl 0 rfl) ?_
    obtain ⟨b8, hf⟩ := chk_ex hf
    refine lv_idiv hx hb dX6_light_24 b8 ?_
    exact e_i X hr hW (someinj hf) dX6_light_25
  · replace hf := ite_t hf c9
    refine lv_iconst (v := 0) hx hb dX6_light_13 (by decide) ?_
    refine lv_goto (tgt := 25) hx hb dX6_light_14 (by decide) ?_
    exact e_i X hr hW (someinj hf) dX6_light_25
set_option maxRecDepth 100000 in
set_option maxHeartbeats 4000000 in
theorem c_X6_lengthOf (l : Launch) (g : gG) (hDW : DW g) (x1 : Int32) (mm : gM) (r0 : Int32) (hf : fX6_lengthOf x1 mm = some r0) : Met l yX6_lengthOf (Cond.code yX6_lengthOf cX6_lengthOf 2 (some .int) :: ALLW) rm_X6_lengthOf (CPre g mm [.ref (ad g 21 0), .int x1]) (CI g mm r0) 0 0 (gA g) := by
  refine Met.ofW (cc := cX6_lengthOf) (maxL := 2) (ret := (some .int)) (by decide) rfl ?_
  intro p e s m args below meth c s₁ B hml hv
  obtain ⟨ha, hFx, hP0, hlo⟩ := hv
  have X : Cx g p s m args c meth RX6 cX6_lengthOf := Cx_of hDW hFx hlo B
  have hx := X.1
  have hb := X.2.1
  have hr := B.returns
  have hlocks := X.2.2.2.2.2.2.2
  have hW : Wd g mm s s.heap [] := ⟨hP0, va_S.rf⟩
  rw [ha, lg_entry_eq]
  have hl := lv_entry ([.ref (ad g 21 0), .int x1] : List Value) (n := 2) (Nat.le_of_ble_eq_true rfl)
  generalize (lg_sl ([.ref (ad g 21 0), .int x1] : List Value) ++ List.replicate (2 - (lg_sl ([.ref (ad g 21 0), .int x1] : List Value)).length) Slot.unset).toArray = ls at hl ⊢
  have hl : lv_has ls 2 [(0, .ref (ad g 21 0)), (1, .int x1)] := hl
  rw [← ha]
  show W p l e rm_X6_lengthOf s m args below meth c s.heap [] 0 0 (MQ below (CI g mm r0) args s 0 0 (gA g)) (F0 m 0 ls [])
  unfold fX6_lengthOf at hf
  refine lv_aload_n hx hb dX6_lengthOf_0 rfl (lv_at hl 0 rfl) ?_
  refine lv_iload_n hx hb dX6_lengthOf_1 rfl (lv_at hl 1 rfl) ?_
  refine lv_iconst (v := 2) hx hb dX6_lengthOf_2 (by decide) ?_
  obtain ⟨r2, e1, hf⟩ := bnd_ex hf
  refine k_i X hW (k_V (As := [.int x1, .int 2]) (rest := []) X hW hml hl.1 (c_X6_of l g hDW  _ _ mm _ e1) (r_recv X hW 21 0 (by decide) (by decide) rfl rfl) ⟨mw_1027, kw_X6_of⟩ ⟨⟨rfl, rfl⟩, ko_X6_of, ⟨Nat.le_of_ble_eq_true rfl, Nat.le_of_ble_eq_true rfl⟩⟩ rfl rfl (Nat.le_of_ble_eq_true rfl) dX6_lengthOf_3 ⟨Nat.le_of_ble_eq_true rfl, Nat.le_of_ble_eq_true rfl⟩) (fun H locs hW => ?_)
  refine lv_if_ne (tgt := 13) hx hb dX6_lengthOf_6 (by decide) (fun c8 => ?_) (fun c8 => ?_)
  · replace hf := ite_f hf c8
    refine lv_aload_n hx hb dX6_lengthOf_13 rfl (lv_at hl 0 rfl) ?_
    refine gf_21_1 X hW (by decide) mw_948 dX6_lengthOf_14 ?_
    refine lv_iconst (v := 0) hx hb dX6_lengthOf_17 (by decide) ?_
    obtain ⟨b4, hf⟩ := chk_ex hf
    refine r_iald X hW 22 0 (by decide) (by decide) rfl b4 dX6_lengthOf_18 ?_
    refine lv_aload_n hx hb dX6_lengthOf_19 rfl (lv_at hl 0 rfl) ?_
    refine lv_iload_n hx hb dX6_lengthOf_20 rfl (lv_at hl 1 rfl) ?_
    refine lv_iconst (v := 2) hx hb dX6_lengthOf_21 (by decide) ?_
    obtain ⟨r6, e5, hf⟩ := bnd_ex hf
    refine k_i X hW (k_V (As := [.int x1, .int 2]) (rest := [.int (gi mm 22 0 (0 : Int32).toNatClampNeg)]) X hW hml hl.1 (c_X6_of l g hDW  _ _ mm _ e5) (r_recv X hW 21 0 (by decide) (by decide) rfl rfl) ⟨mw_1027, kw_X6_of⟩ ⟨⟨rfl, rfl⟩, ko_X6_of, ⟨Nat.le_of_ble_eq_true rfl, Nat.le_of_ble_eq_true rfl⟩⟩ rfl rfl (Nat.le_of_ble_eq_true rfl) dX6_lengthOf_22 ⟨Nat.le_of_ble_eq_true rfl, Nat.le_of_ble_eq_true rfl⟩) (fun H locs hW => ?_)
    refine lv_iadd hx hb dX6_lengthOf_25 ?_
    exact e_i X hr hW (someinj hf) dX6_lengthOf_26
  · replace hf := ite_t hf c8
    refine lv_iconst (v := 0) hx hb dX6_lengthOf_9 (by decide) ?_
    refine lv_goto (tgt := 26) hx hb dX6_lengthOf_10 (by decide) ?_
    exact e_i X hr hW (someinj hf) dX6_lengthOf_26
set_option maxRecDepth 100000 in
set_option maxHeartbeats 4000000 in
theorem c_X6_roundTicks (l : Launch) (g : gG) (hDW : DW g) (mm : gM) (r0 : Int32) (hf : fX6_roundTicks mm = some r0) : Met l yX6_roundTicks (Cond.code yX6_roundTicks cX6_roundTicks 3 (some .int) :: ALLW) rm_X6_roundTicks (CPre g mm [.ref (ad g 21 0)]) (CI g mm r0) 0 0 (gA g) := by
  refine Met.ofW (cc := cX6_roundTicks) (maxL := 3) (ret := (some .int)) (by decide) rfl ?_
  intro p e s m args below meth c s₁ B hml hv
  obtain ⟨ha, hFx, hP0, hlo⟩ := hv
  have X : Cx g p s m args c meth RX6 cX6_roundTicks := Cx_of hDW hFx hlo B
  have hx := X.1
  have hb := X.2.1
  have hr := B.returns
  have hlocks := X.2.2.2.2.2.2.2
  have hW : Wd g mm s s.heap [] := ⟨hP0, va_S.rf⟩
  rw [ha, lg_entry_eq]
  have hl := lv_entry ([.ref (ad g 21 0)] : List Value) (n := 3) (Nat.le_of_ble_eq_true rfl)
  generalize (lg_sl ([.ref (ad g 21 0)] : List Value) ++ List.replicate (3 - (lg_sl ([.ref (ad g 21 0)] : List Value)).length) Slot.unset).toArray = ls at hl ⊢
  have hl : lv_has ls 3 [(0, .ref (ad g 21 0))] := hl
  rw [← ha]
  show W p l e rm_X6_roundTicks s m args below meth c s.heap [] 0 0 (MQ below (CI g mm r0) args s 0 0 (gA g)) (F0 m 0 ls [])
  have P_4 : ∀ (n4 : Nat) (x1 : Int32) (x2 : Int32) (H : Heap) (locs : List Loc) (ls : Array Slot), Wd g mm s H locs → lv_has ls 3 [(0, .ref (ad g 21 0)), (1, .int x1), (2, .int x2)] → lX6_roundTicks_4 mm n4 x1 x2 = some r0 → W p l e rm_X6_roundTicks s m args below meth c H locs 0 0 (MQ below (CI g mm r0) args s 0 0 (gA g)) (F0 m 4 ls []) := by
    intro n4
    induction n4 with
    | zero => intro x1 x2 H locs ls hW hl hf; exact (no_some hf).elim
    | succ n4 ih_4 =>
      intro x1 x2 H locs ls hW hl hf
      rw [lX6_roundTicks_4_s] at hf
      refine lv_iload_n hx hb dX6_roundTicks_4 rfl (lv_at hl 2 rfl) ?_
      refine lv_bipush (v := 6) hx hb dX6_roundTicks_5 (by decide) ?_
      refine lv_icmp_ge (tgt := 24) hx hb dX6_roundTicks_7 (by decide) (fun c4 => ?_) (fun c4 => ?_)
      · replace hf := ite_t hf c4
        refine lv_iload_n hx hb dX6_roundTicks_24 rfl (lv_at hl 1 rfl) ?_
        exact e_i X hr hW (someinj hf) dX6_roundTicks_25
      · replace hf := ite_f hf c4
        refine lv_iload_n hx hb dX6_roundTicks_10 rfl (lv_at hl 1 rfl) ?_
        refine lv_aload_n hx hb dX6_roundTicks_11 rfl (lv_at hl 0 rfl) ?_
        refine lv_iload_n hx hb dX6_roundTicks_12 rfl (lv_at hl 2 rfl) ?_
        obtain ⟨r2, e1, hf⟩ := bnd_ex hf
        refine k_i X hW (k_V (As := [.int x2]) (rest := [.int x1]) X hW hml hl.1 (c_X6_lengthOf l g hDW  _ mm _ e1) (r_recv X hW 21 0 (by decide) (by decide) rfl rfl) ⟨mw_1092, kw_X6_lengthOf⟩ ⟨⟨rfl, rfl⟩, ko_X6_lengthOf, ⟨Nat.le_of_ble_eq_true rfl, Nat.le_of_ble_eq_true rfl⟩⟩ rfl rfl (Nat.le_of_ble_eq_true rfl) dX6_roundTicks_13 ⟨Nat.le_of_ble_eq_true rfl, Nat.le_of_ble_eq_true rfl⟩) (fun H locs hW => ?_)
        refine lv_iadd hx hb dX6_roundTicks_16 ?_
        refine lv_istore_n (lv' := [(1, .int (x1 + r2)), (0, .ref (ad g 21 0)), (2, .int x2)]) hx hb dX6_roundTicks_17 rfl hl (by decide) rfl (fun ls hl => ?_)
        refine lv_iinc (v := x2 + 1) (lv' := [(2, .int (x2 + 1)), (1, .int (x1 + r2)), (0, .ref (ad g 21 0))]) hx hb dX6_roundTicks_18 hl (k := 2) rfl rfl (by decide) rfl (fun ls hl => ?_)
        refine lv_goto (tgt := 4) hx hb dX6_roundTicks_21 (by decide) ?_
        exact ih_4 _ _ _ _ _ hW (lv_sub hl [2, 1, 0] rfl) hf
  unfold fX6_roundTicks at hf
  refine lv_iconst (v := 0) hx hb dX6_roundTicks_0 (by decide) ?_
  refine lv_istore_n (lv' := [(1, .int 0), (0, .ref (ad g 21 0))]) hx hb dX6_roundTicks_1 rfl hl (by decide) rfl (fun ls hl => ?_)
  refine lv_iconst (v := 0) hx hb dX6_roundTicks_2 (by decide) ?_
  refine lv_istore_n (lv' := [(2, .int 0), (1, .int 0), (0, .ref (ad g 21 0))]) hx hb dX6_roundTicks_3 rfl hl (by decide) rfl (fun ls hl => ?_)
  exact P_4 _ _ _ _ _ _ hW (lv_sub hl [2, 1, 0] rfl) hf
set_option maxRecDepth 100000 in
set_option maxHeartbeats 4000000 in
theorem c_X6_slotAt (l : Launch) (g : gG) (hDW : DW g) (x1 : Int32) (mm : gM) (r0 : Int32) (hf : fX6_slotAt x1 mm = some r0) : Met l yX6_slotAt (Cond.code yX6_slotAt cX6_slotAt 4 (some .int) :: ALLW) rm_X6_slotAt (CPre g mm [.ref (ad g 21 0), .int x1]) (CI g mm r0) 0 0 (gA g) := by
  refine Met.ofW (cc := cX6_slotAt) (maxL := 4) (ret := (some .int)) (by decide) rfl ?_
  intro p e s m args below meth c s₁ B hml hv
  obtain ⟨ha, hFx, hP0, hlo⟩ := hv
  have X : Cx g p s m args c meth RX6 cX6_slotAt := Cx_of hDW hFx hlo B
  have hx := X.1
  have hb := X.2.1
  have hr := B.returns
  have hlocks := X.2.2.2.2.2.2.2
  have hW : Wd g mm s s.heap [] := ⟨hP0, va_S.rf⟩
  rw [ha, lg_entry_eq]
  have hl := lv_entry ([.ref (ad g 21 0), .int x1] : List Value) (n := 4) (Nat.le_of_ble_eq_true rfl)
  generalize (lg_sl ([.ref (ad g 21 0), .int x1] : List Value) ++ List.replicate (4 - (lg_sl ([.ref (ad g 21 0), .int x1] : List Value)).length) Slot.unset).toArray = ls at hl ⊢
  have hl : lv_has ls 4 [(0, .ref (ad g 21 0)), (1, .int x1)] := hl
  rw [← ha]
  show W p l e rm_X6_slotAt s m args below meth c s.heap [] 0 0 (MQ below (CI g mm r0) args s 0 0 (gA g)) (F0 m 0 ls [])
  have P_27 : ∀ (x2 : Int32) (x3 : Int32) (H : Heap) (locs : List Loc) (ls : Array Slot), Wd g mm s H locs → lv_has ls 4 [(2, .int x2), (3, .int x3)] → jX6_slotAt_27 mm x2 x3 = some r0 → W p l e rm_X6_slotAt s m args below meth c H locs 0 0 (MQ below (CI g mm r0) args s 0 0 (gA g)) (F0 m 27 ls []) := by
    intro x2 x3 H locs ls hW hl hf
    unfold jX6_slotAt_27 at hf
    refine lv_bipush (v := 100) hx hb dX6_slotAt_27 (by decide) ?_
    refine lv_iload_n hx hb dX6_slotAt_29 rfl (lv_at hl 0 rfl) ?_
    refine lv_imul hx hb dX6_slotAt_30 ?_
    refine lv_iload_n hx hb dX6_slotAt_31 rfl (lv_at hl 1 rfl) ?_
    refine lv_iadd hx hb dX6_slotAt_32 ?_
    exact e_i X hr hW (someinj hf) dX6_slotAt_33
  have P_4 : ∀ (n4 : Nat) (x2 : Int32) (x3 : Int32) (H : Heap) (locs : List Loc) (ls : Array Slot), Wd g mm s H locs → lv_has ls 4 [(0, .ref (ad g 21 0)), (2, .int x2), (3, .int x3)] → lX6_slotAt_4 mm n4 x2 x3 = some r0 → W p l e rm_X6_slotAt s m args below meth c H locs 0 0 (MQ below (CI g mm r0) args s 0 0 (gA g)) (F0 m 4 ls []) := by
    intro n4
    induction n4 with
    | zero => intro x2 x3 H locs ls hW hl hf; exact (no_some hf).elim
    | succ n4 ih_4 =>
      intro x2 x3 H locs ls hW hl hf
      rw [lX6_slotAt_4_s] at hf
      refine lv_iload_n hx hb dX6_slotAt_4 rfl (lv_at hl 2 rfl) ?_
      refine lv_aload_n hx hb dX6_slotAt_5 rfl (lv_at hl 0 rfl) ?_
      refine lv_iload_n hx hb dX6_slotAt_6 rfl (lv_at hl 1 rfl) ?_
      obtain ⟨r2, e1, hf⟩ := bnd_ex hf
      refine k_i X hW (k_V (As := [.int x2]) (rest := [.int x3]) X hW hml hl.1 (c_X6_lengthOf l g hDW  _ mm _ e1) (r_recv X hW 21 0 (by decide) (by decide) rfl rfl) ⟨mw_1092, kw_X6_lengthOf⟩ ⟨⟨rfl, rfl⟩, ko_X6_lengthOf, ⟨Nat.le_of_ble_eq_true rfl, Nat.le_of_ble_eq_true rfl⟩⟩ rfl rfl (Nat.le_of_ble_eq_true rfl) dX6_slotAt_7 ⟨Nat.le_of_ble_eq_true rfl, Nat.le_of_ble_eq_true rfl⟩) (fun H locs hW => ?_)
      refine lv_icmp_lt (tgt := 27) hx hb dX6_slotAt_10 (by decide) (fun c7 => ?_) (fun c7 => ?_)
      · replace hf := ite_t hf c7
        exact P_27 _ _ _ _ _ hW (lv_sub hl [1, 2] rfl) hf
      · replace hf := ite_f hf c7
        refine lv_iload_n hx hb dX6_slotAt_13 rfl (lv_at hl 2 rfl) ?_
        refine lv_aload_n hx hb dX6_slotAt_14 rfl (lv_at hl 0 rfl) ?_
        refine lv_iload_n hx hb dX6_slotAt_15 rfl (lv_at hl 1 rfl) ?_
        obtain ⟨r5, e4, hf⟩ := bnd_ex hf
        refine k_i X hW (k_V (As := [.int x2]) (rest := [.int x3]) X hW hml hl.1 (c_X6_lengthOf l g hDW  _ mm _ e4) (r_recv X hW 21 0 (by decide) (by decide) rfl rfl) ⟨mw_1092, kw_X6_lengthOf⟩ ⟨⟨rfl, rfl⟩, ko_X6_lengthOf, ⟨Nat.le_of_ble_eq_true rfl, Nat.le_of_ble_eq_true rfl⟩⟩ rfl rfl (Nat.le_of_ble_eq_true rfl) dX6_slotAt_16 ⟨Nat.le_of_ble_eq_true rfl, Nat.le_of_ble_eq_true rfl⟩) (fun H locs hW => ?_)
        refine lv_isub hx hb dX6_slotAt_19 ?_
        refine lv_istore_n (lv' := [(3, .int (x3 - r5)), (0, .ref (ad g 21 0)), (2, .int x2)]) hx hb dX6_slotAt_20 rfl hl (by decide) rfl (fun ls hl => ?_)
        refine lv_iinc (v := x2 + 1) (lv' := [(2, .int (x2 + 1)), (3, .int (x3 - r5)), (0, .ref (ad g 21 0))]) hx hb dX6_slotAt_21 hl (k := 2) rfl rfl (by decide) rfl (fun ls hl => ?_)
        refine lv_goto (tgt := 4) hx hb dX6_slotAt_24 (by decide) ?_
        exact ih_4 _ _ _ _ _ hW (lv_sub hl [2, 0, 1] rfl) hf
  unfold fX6_slotAt at hf
  refine lv_iconst (v := 0) hx hb dX6_slotAt_0 (by decide) ?_
  refine lv_istore_n (lv' := [(2, .int 0), (0, .ref (ad g 21 0)), (1, .int x1)]) hx hb dX6_slotAt_1 rfl hl (by decide) rfl (fun ls hl => ?_)
  refine lv_iload_n hx hb dX6_slotAt_2 rfl (lv_at hl 2 rfl) ?_
  refine lv_istore_n (lv' := [(3, .int x1), (2, .int 0), (0, .ref (ad g 21 0)), (1, .int x1)]) hx hb dX6_slotAt_3 rfl hl (by decide) rfl (fun ls hl => ?_)
  exact P_4 _ _ _ _ _ _ hW (lv_sub hl [2, 1, 0] rfl) hf
set_option maxRecDepth 100000 in
set_option maxHeartbeats 4000000 in
theorem c_X6_slotAhead (l : Launch) (g : gG) (hDW : DW g) (x1 : Int32) (mm : gM) (r0 : Int32) (hf : fX6_slotAhead x1 mm = some r0) : Met l yX6_slotAhead (Cond.code yX6_slotAhead cX6_slotAhead 3 (some .int) :: ALLW) rm_X6_slotAhead (CPre g mm [.ref (ad g 21 0), .int x1]) (CI g mm r0) 0 0 (gA g) := by
  refine Met.ofW (cc := cX6_slotAhead) (maxL := 3) (ret := (some .int)) (by decide) rfl ?_
  intro p e s m args below meth c s₁ B hml hv
  obtain ⟨ha, hFx, hP0, hlo⟩ := hv
  have X : Cx g p s m args c meth RX6 cX6_slotAhead := Cx_of hDW hFx hlo B
  have hx := X.1
  have hb := X.2.1
  have hr := B.returns
  have hlocks := X.2.2.2.2.2.2.2
  have hW : Wd g mm s s.heap [] := ⟨hP0, va_S.rf⟩
  rw [ha, lg_entry_eq]
  have hl := lv_entry ([.ref (ad g 21 0), .int x1] : List Value) (n := 3) (Nat.le_of_ble_eq_true rfl)
  generalize (lg_sl ([.ref (ad g 21 0), .int x1] : List Value) ++ List.replicate (3 - (lg_sl ([.ref (ad g 21 0), .int x1] : List Value)).length) Slot.unset).toArray = ls at hl ⊢
  have hl : lv_has ls 3 [(0, .ref (ad g 21 0)), (1, .int x1)] := hl
  rw [← ha]
  show W p l e rm_X6_slotAhead s m args below meth c s.heap [] 0 0 (MQ below (CI g mm r0) args s 0 0 (gA g)) (F0 m 0 ls [])
  have P_37 : ∀ (x2 : Int32) (H : Heap) (locs : List Loc) (ls : Array Slot), Wd g mm s H locs → lv_has ls 3 [(2, .int x2)] → jX6_slotAhead_37 mm x2 = some r0 → W p l e rm_X6_slotAhead s m args below meth c H locs 0 0 (MQ below (CI g mm r0) args s 0 0 (gA g)) (F0 m 37 ls []) := by
    intro x2 H locs ls hW hl hf
    unfold jX6_slotAhead_37 at hf
    refine lv_iload_n hx hb dX6_slotAhead_37 rfl (lv_at hl 0 rfl) ?_
    exact e_i X hr hW (someinj hf) dX6_slotAhead_38
  have P_10 : ∀ (n10 : Nat) (x1 : Int32) (x2 : Int32) (H : Heap) (locs : List Loc) (ls : Array Slot), Wd g mm s H locs → lv_has ls 3 [(0, .ref (ad g 21 0)), (1, .int x1), (2, .int x2)] → lX6_slotAhead_10 mm n10 x1 x2 = some r0 → W p l e rm_X6_slotAhead s m args below meth c H locs 0 0 (MQ below (CI g mm r0) args s 0 0 (gA g)) (F0 m 10 ls []) := by
    intro n10
    induction n10 with
    | zero => intro x1 x2 H locs ls hW hl hf; exact (no_some hf).elim
    | succ n10 ih_10 =>
      intro x1 x2 H locs ls hW hl hf
      rw [lX6_slotAhead_10_s] at hf
      refine lv_iload_n hx hb dX6_slotAhead_10 rfl (lv_at hl 2 rfl) ?_
      refine lv_iload_n hx hb dX6_slotAhead_11 rfl (lv_at hl 1 rfl) ?_
      refine lv_icmp_eq (tgt := 37) hx hb dX6_slotAhead_12 (by decide) (fun c7 => ?_) (fun c7 => ?_)
      · replace hf := ite_t hf c7
        exact P_37 _ _ _ _ hW (lv_sub hl [2] rfl) hf
      · replace hf := ite_f hf c7
        refine lv_aload_n hx hb dX6_slotAhead_15 rfl (lv_at hl 0 rfl) ?_
        refine lv_iload_n hx hb dX6_slotAhead_16 rfl (lv_at hl 2 rfl) ?_
        refine lv_iconst (v := 2) hx hb dX6_slotAhead_17 (by decide) ?_
        obtain ⟨r3, e2, hf⟩ := bnd_ex hf
        refine k_i X hW (k_V (As := [.int x2, .int 2]) (rest := []) X hW hml hl.1 (c_X6_of l g hDW  _ _ mm _ e2) (r_recv X hW 21 0 (by decide) (by decide) rfl rfl) ⟨mw_1027, kw_X6_of⟩ ⟨⟨rfl, rfl⟩, ko_X6_of, ⟨Nat.le_of_ble_eq_true rfl, Nat.le_of_ble_eq_true rfl⟩⟩ rfl rfl (Nat.le_of_ble_eq_true rfl) dX6_slotAhead_18 ⟨Nat.le_of_ble_eq_true rfl, Nat.le_of_ble_eq_true rfl⟩) (fun H locs hW => ?_)
        refine lv_if_ne (tgt := 37) hx hb dX6_slotAhead_21 (by decide) (fun c6 => ?_) (fun c6 => ?_)
        · replace hf := ite_f hf c6
          exact P_37 _ _ _ _ hW (lv_sub hl [2] rfl) hf
        · replace hf := ite_t hf c6
          refine lv_iload_n hx hb dX6_slotAhead_24 rfl (lv_at hl 2 rfl) ?_
          refine lv_bipush (v := 6) hx hb dX6_slotAhead_25 (by decide) ?_
          refine lv_iadd hx hb dX6_slotAhead_27 ?_
          refine lv_iconst (v := 1) hx hb dX6_slotAhead_28 (by decide) ?_
          refine lv_isub hx hb dX6_slotAhead_29 ?_
          refine lv_bipush (v := 6) hx hb dX6_slotAhead_30 (by decide) ?_
          obtain ⟨b5, hf⟩ := chk_ex hf
          refine r_irem hx hb dX6_slotAhead_32 b5 ?_
          refine lv_istore_n (lv' := [(2, .int (irm ((x2 + 6) - 1) 6)), (0, .ref (ad g 21 0)), (1, .int x1)]) hx hb dX6_slotAhead_33 rfl hl (by decide) rfl (fun ls hl => ?_)
          refine lv_goto (tgt := 10) hx hb dX6_slotAhead_34 (by decide) ?_
          exact ih_10 _ _ _ _ _ hW (lv_sub hl [1, 2, 0] rfl) hf
  unfold fX6_slotAhead at hf
  refine lv_iload_n hx hb dX6_slotAhead_0 rfl (lv_at hl 1 rfl) ?_
  refine lv_bipush (v := 6) hx hb dX6_slotAhead_1 (by decide) ?_
  refine lv_iadd hx hb dX6_slotAhead_3 ?_
  refine lv_iconst (v := 1) hx hb dX6_slotAhead_4 (by decide) ?_
  refine lv_isub hx hb dX6_slotAhead_5 ?_
  refine lv_bipush (v := 6) hx hb dX6_slotAhead_6 (by decide) ?_
  obtain ⟨b1, hf⟩ := chk_ex hf
  refine r_irem hx hb dX6_slotAhead_8 b1 ?_
  refine lv_istore_n (lv' := [(2, .int (irm ((x1 + 6) - 1) 6)), (0, .ref (ad g 21 0)), (1, .int x1)]) hx hb dX6_slotAhead_9 rfl hl (by decide) rfl (fun ls hl => ?_)
  exact P_10 _ _ _ _ _ _ hW (lv_sub hl [1, 2, 0] rfl) hf
set_option maxRecDepth 100000 in
set_option maxHeartbeats 4000000 in
theorem c_X6_lightOf (l : Launch) (g : gG) (hDW : DW g) (x1 : Int32) (x2 : Int32) (x3 : Int32) (mm : gM) (r0 : Int32) (hf : fX6_lightOf x1 x2 x3 mm = some r0) : Met l yX6_lightOf (Cond.code yX6_lightOf cX6_lightOf 8 (some .int) :: ALLW) rm_X6_lightOf (CPre g mm [.ref (ad g 21 0), .int x1, .int x2, .int x3]) (CI g mm r0) 0 0 (gA g) := by
  refine Met.ofW (cc := cX6_lightOf) (maxL := 8) (ret := (some .int)) (by decide) rfl ?_
  intro p e s m args below meth c s₁ B hml hv
  obtain ⟨ha, hFx, hP0, hlo⟩ := hv
  have X : Cx g p s m args c meth RX6 cX6_lightOf := Cx_of hDW hFx hlo B
  have hx := X.1
  have hb := X.2.1
  have hr := B.returns
  have hlocks := X.2.2.2.2.2.2.2
  have hW : Wd g mm s s.heap [] := ⟨hP0, va_S.rf⟩
  rw [ha, lg_entry_eq]
  have hl := lv_entry ([.ref (ad g 21 0), .int x1, .int x2, .int x3] : List Value) (n := 8) (Nat.le_of_ble_eq_true rfl)
  generalize (lg_sl ([.ref (ad g 21 0), .int x1, .int x2, .int x3] : List Value) ++ List.replicate (8 - (lg_sl ([.ref (ad g 21 0), .int x1, .int x2, .int x3] : List Value)).length) Slot.unset).toArray = ls at hl ⊢
  have hl : lv_has ls 8 [(0, .ref (ad g 21 0)), (1, .int x1), (2, .int x2), (3, .int x3)] := hl
  rw [← ha]
  show W p l e rm_X6_lightOf s m args below meth c s.heap [] 0 0 (MQ below (CI g mm r0) args s 0 0 (gA g)) (F0 m 0 ls [])
  have P_101 : ∀ (x4 : Int32) (s0 : Int32) (H : Heap) (locs : List Loc) (ls : Array Slot), Wd g mm s H locs → lv_has ls 8 [(4, .int x4)] → jX6_lightOf_101 mm x4 s0 = some r0 → W p l e rm_X6_lightOf s m args below meth c H locs 0 0 (MQ below (CI g mm r0) args s 0 0 (gA g)) (F0 m 101 ls [.int s0]) := by
    intro x4 s0 H locs ls hW hl hf
    unfold jX6_lightOf_101 at hf
    refine lv_istore (lv' := [(7, .int s0), (4, .int x4)]) hx hb dX6_lightOf_101 hl (by decide) rfl (fun ls hl => ?_)
    refine lv_iload hx hb dX6_lightOf_103 (lv_at hl 0 rfl) ?_
    refine lv_iload hx hb dX6_lightOf_105 (lv_at hl 1 rfl) ?_
    refine lv_icmp_le (tgt := 115) hx hb dX6_lightOf_107 (by decide) (fun c28 => ?_) (fun c28 => ?_)
    · replace hf := ite_t hf c28
      refine lv_iload hx hb dX6_lightOf_115 (lv_at hl 1 rfl) ?_
      exact e_i X hr hW (someinj hf) dX6_lightOf_117
    · replace hf := ite_f hf c28
      refine lv_iload hx hb dX6_lightOf_110 (lv_at hl 0 rfl) ?_
      refine lv_goto (tgt := 117) hx hb dX6_lightOf_112 (by decide) ?_
      exact e_i X hr hW (someinj hf) dX6_lightOf_117
  have P_82 : ∀ (x4 : Int32) (x5 : Int32) (s0 : Int32) (H : Heap) (locs : List Loc) (ls : Array Slot), Wd g mm s H locs → lv_has ls 8 [(0, .ref (ad g 21 0)), (4, .int x4), (5, .int x5)] → jX6_lightOf_82 mm x4 x5 s0 = some r0 → W p l e rm_X6_lightOf s m args below meth c H locs 0 0 (MQ below (CI g mm r0) args s 0 0 (gA g)) (F0 m 82 ls [.int s0]) := by
    intro x4 x5 s0 H locs ls hW hl hf
    unfold jX6_lightOf_82 at hf
    refine lv_istore (lv' := [(6, .int s0), (0, .ref (ad g 21 0)), (4, .int x4), (5, .int x5)]) hx hb dX6_lightOf_82 hl (by decide) rfl (fun ls hl => ?_)
    refine lv_iload hx hb dX6_lightOf_84 (lv_at hl 0 rfl) ?_
    refine lv_if_eq (tgt := 100) hx hb dX6_lightOf_86 (by decide) (fun c27 => ?_) (fun c27 => ?_)
    · replace hf := ite_t hf c27
      refine lv_iconst (v := 0) hx hb dX6_lightOf_100 (by decide) ?_
      exact P_101 _ _ _ _ _ hW (lv_sub hl [2] rfl) hf
    · replace hf := ite_f hf c27
      refine lv_aload_n hx hb dX6_lightOf_89 rfl (lv_at hl 1 rfl) ?_
      refine lv_iload hx hb dX6_lightOf_90 (lv_at hl 3 rfl) ?_
      obtain ⟨r24, e23, hf⟩ := bnd_ex hf
      refine k_i X hW (k_V (As := [.int x5]) (rest := []) X hW hml hl.1 (c_X6_light l g hDW  _ mm _ e23) (r_recv X hW 21 0 (by decide) (by decide) rfl rfl) ⟨mw_1113, kw_X6_light⟩ ⟨⟨rfl, rfl⟩, ko_X6_light, ⟨Nat.le_of_ble_eq_true rfl, Nat.le_of_ble_eq_true rfl⟩⟩ rfl rfl (Nat.le_of_ble_eq_true rfl) dX6_lightOf_92 ⟨Nat.le_of_ble_eq_true rfl, Nat.le_of_ble_eq_true rfl⟩) (fun H locs hW => ?_)
      refine lv_iconst (v := 4) hx hb dX6_lightOf_95 (by decide) ?_
      obtain ⟨b26, hf⟩ := chk_ex hf
      refine lv_idiv hx hb dX6_lightOf_96 b26 ?_
      refine lv_goto (tgt := 101) hx hb dX6_lightOf_97 (by decide) ?_
      exact P_101 _ _ _ _ _ hW (lv_sub hl [2] rfl) hf
  have P_81 : ∀ (x4 : Int32) (x5 : Int32) (H : Heap) (locs : List Loc) (ls : Array Slot), Wd g mm s H locs → lv_has ls 8 [(0, .ref (ad g 21 0)), (4, .int x4), (5, .int x5)] → jX6_lightOf_81 mm x4 x5 = some r0 → W p l e rm_X6_lightOf s m args below meth c H locs 0 0 (MQ below (CI g mm r0) args s 0 0 (gA g)) (F0 m 81 ls []) := by
    intro x4 x5 H locs ls hW hl hf
    unfold jX6_lightOf_81 at hf
    refine lv_iconst (v := 0) hx hb dX6_lightOf_81 (by decide) ?_
    exact P_82 _ _ _ _ _ _ hW (lv_sub hl [0, 1, 2] rfl) hf
  have P_22 : ∀ (x1 : Int32) (x2 : Int32) (x3 : Int32) (s0 : Int32) (H : Heap) (locs : List Loc) (ls : Array Slot), Wd g mm s H locs → lv_has ls 8 [(0, .ref (ad g 21 0)), (1, .int x1), (2, .int x2), (3, .int x3)] → jX6_lightOf_22 mm x1 x2 x3 s0 = some r0 → W p l e rm_X6_lightOf s m args below meth c H locs 0 0 (MQ below (CI g mm r0) args s 0 0 (gA g)) (F0 m 22 ls [.int s0]) := by
    intro x1 x2 x3 s0 H locs ls hW hl hf
    unfold jX6_lightOf_22 at hf
    refine lv_istore (lv' := [(4, .int s0), (0, .ref (ad g 21 0)), (1, .int x1), (2, .int x2), (3, .int x3)]) hx hb dX6_lightOf_22 hl (by decide) rfl (fun ls hl => ?_)
    refine lv_aload_n hx hb dX6_lightOf_24 rfl (lv_at hl 1 rfl) ?_
    refine lv_iload_n hx hb dX6_lightOf_25 rfl (lv_at hl 2 rfl) ?_
    obtain ⟨r9, e8, hf⟩ := bnd_ex hf
    refine k_i X hW (k_V (As := [.int x1]) (rest := []) X hW hml hl.1 (c_X6_slotAhead l g hDW  _ mm _ e8) (r_recv X hW 21 0 (by decide) (by decide) rfl rfl) ⟨mw_1117, kw_X6_slotAhead⟩ ⟨⟨rfl, rfl⟩, ko_X6_slotAhead, ⟨Nat.le_of_ble_eq_true rfl, Nat.le_of_ble_eq_true rfl⟩⟩ rfl rfl (Nat.le_of_ble_eq_true rfl) dX6_lightOf_26 ⟨Nat.le_of_ble_eq_true rfl, Nat.le_of_ble_eq_true rfl⟩) (fun H locs hW => ?_)
    refine lv_istore (lv' := [(5, .int r9), (4, .int s0), (0, .ref (ad g 21 0)), (1, .int x1), (2, .int x2), (3, .int x3)]) hx hb dX6_lightOf_29 hl (by decide) rfl (fun ls hl => ?_)
    refine lv_aload_n hx hb dX6_lightOf_31 rfl (lv_at hl 2 rfl) ?_
    refine gf_21_1 X hW (by decide) mw_948 dX6_lightOf_32 ?_
    refine lv_iconst (v := 0) hx hb dX6_lightOf_35 (by decide) ?_
    obtain ⟨b11, hf⟩ := chk_ex hf
    refine r_iald X hW 22 0 (by decide) (by decide) rfl b11 dX6_lightOf_36 ?_
    refine lv_if_ne (tgt := 81) hx hb dX6_lightOf_37 (by decide) (fun c22 => ?_) (fun c22 => ?_)
    · replace hf := ite_f hf c22
      exact P_81 _ _ _ _ _ hW (lv_sub hl [2, 1, 0] rfl) hf
    · replace hf := ite_t hf c22
      refine lv_iload_n hx hb dX6_lightOf_40 rfl (lv_at hl 5 rfl) ?_
      refine lv_if_eq (tgt := 81) hx hb dX6_lightOf_41 (by decide) (fun c21 => ?_) (fun c21 => ?_)
      · replace hf := ite_t hf c21
        exact P_81 _ _ _ _ _ hW (lv_sub hl [2, 1, 0] rfl) hf
      · replace hf := ite_f hf c21
        refine lv_iload hx hb dX6_lightOf_44 (lv_at hl 0 rfl) ?_
        refine lv_iload_n hx hb dX6_lightOf_46 rfl (lv_at hl 3 rfl) ?_
        refine lv_icmp_eq (tgt := 81) hx hb dX6_lightOf_47 (by decide) (fun c20 => ?_) (fun c20 => ?_)
        · replace hf := ite_t hf c20
          exact P_81 _ _ _ _ _ hW (lv_sub hl [2, 1, 0] rfl) hf
        · replace hf := ite_f hf c20
          refine lv_aload_n hx hb dX6_lightOf_50 rfl (lv_at hl 2 rfl) ?_
          refine lv_iload hx hb dX6_lightOf_51 (lv_at hl 0 rfl) ?_
          obtain ⟨r13, e12, hf⟩ := bnd_ex hf
          refine k_i X hW (k_V (As := [.int r9]) (rest := []) X hW hml hl.1 (c_X6_works l g hDW  _ mm _ e12) (r_recv X hW 21 0 (by decide) (by decide) rfl rfl) ⟨mw_1058, kw_X6_works⟩ ⟨⟨rfl, rfl⟩, ko_X6_works, ⟨Nat.le_of_ble_eq_true rfl, Nat.le_of_ble_eq_true rfl⟩⟩ rfl rfl (Nat.le_of_ble_eq_true rfl) dX6_lightOf_53 ⟨Nat.le_of_ble_eq_true rfl, Nat.le_of_ble_eq_true rfl⟩) (fun H locs hW => ?_)
          refine lv_iload_n hx hb dX6_lightOf_56 rfl (lv_at hl 4 rfl) ?_
          refine lv_ishr hx hb dX6_lightOf_57 ?_
          refine lv_iconst (v := 1) hx hb dX6_lightOf_58 (by decide) ?_
          refine lv_iand hx hb dX6_lightOf_59 ?_
          refine lv_iconst (v := 1) hx hb dX6_lightOf_60 (by decide) ?_
          refine lv_icmp_ne (tgt := 81) hx hb dX6_lightOf_61 (by decide) (fun c19 => ?_) (fun c19 => ?_)
          · replace hf := ite_f hf c19
            exact P_81 _ _ _ _ _ hW (lv_sub hl [2, 1, 0] rfl) hf
          · replace hf := ite_t hf c19
            refine lv_aload_n hx hb dX6_lightOf_64 rfl (lv_at hl 2 rfl) ?_
            refine lv_iload_n hx hb dX6_lightOf_65 rfl (lv_at hl 3 rfl) ?_
            refine lv_iconst (v := 3) hx hb dX6_lightOf_66 (by decide) ?_
            obtain ⟨r16, e15, hf⟩ := bnd_ex hf
            refine k_i X hW (k_V (As := [.int x1, .int 3]) (rest := []) X hW hml hl.1 (c_X6_of l g hDW  _ _ mm _ e15) (r_recv X hW 21 0 (by decide) (by decide) rfl rfl) ⟨mw_1027, kw_X6_of⟩ ⟨⟨rfl, rfl⟩, ko_X6_of, ⟨Nat.le_of_ble_eq_true rfl, Nat.le_of_ble_eq_true rfl⟩⟩ rfl rfl (Nat.le_of_ble_eq_true rfl) dX6_lightOf_67 ⟨Nat.le_of_ble_eq_true rfl, Nat.le_of_ble_eq_true rfl⟩) (fun H locs hW => ?_)
            refine lv_iload_n hx hb dX6_lightOf_70 rfl (lv_at hl 4 rfl) ?_
            refine lv_ishr hx hb dX6_lightOf_71 ?_
            refine lv_iconst (v := 1) hx hb dX6_lightOf_72 (by decide) ?_
            refine lv_iand hx hb dX6_lightOf_73 ?_
            refine lv_if_ne (tgt := 81) hx hb dX6_lightOf_74 (by decide) (fun c18 => ?_) (fun c18 => ?_)
            · replace hf := ite_f hf c18
              exact P_81 _ _ _ _ _ hW (lv_sub hl [2, 1, 0] rfl) hf
            · replace hf := ite_t hf c18
              refine lv_iconst (v := 1) hx hb dX6_lightOf_77 (by decide) ?_
              refine lv_goto (tgt := 82) hx hb dX6_lightOf_78 (by decide) ?_
              exact P_82 _ _ _ _ _ _ hW (lv_sub hl [2, 1, 0] rfl) hf
  unfold fX6_lightOf at hf
  refine lv_aload_n hx hb dX6_lightOf_0 rfl (lv_at hl 0 rfl) ?_
  refine lv_iload_n hx hb dX6_lightOf_1 rfl (lv_at hl 1 rfl) ?_
  obtain ⟨r2, e1, hf⟩ := bnd_ex hf
  refine k_i X hW (k_V (As := [.int x1]) (rest := []) X hW hml hl.1 (c_X6_works l g hDW  _ mm _ e1) (r_recv X hW 21 0 (by decide) (by decide) rfl rfl) ⟨mw_1058, kw_X6_works⟩ ⟨⟨rfl, rfl⟩, ko_X6_works, ⟨Nat.le_of_ble_eq_true rfl, Nat.le_of_ble_eq_true rfl⟩⟩ rfl rfl (Nat.le_of_ble_eq_true rfl) dX6_lightOf_2 ⟨Nat.le_of_ble_eq_true rfl, Nat.le_of_ble_eq_true rfl⟩) (fun H locs hW => ?_)
  refine lv_iload_n hx hb dX6_lightOf_5 rfl (lv_at hl 2 rfl) ?_
  refine lv_ishr hx hb dX6_lightOf_6 ?_
  refine lv_iconst (v := 1) hx hb dX6_lightOf_7 (by decide) ?_
  refine lv_iand hx hb dX6_lightOf_8 ?_
  refine lv_iconst (v := 1) hx hb dX6_lightOf_9 (by decide) ?_
  refine lv_icmp_ne (tgt := 21) hx hb dX6_lightOf_10 (by decide) (fun c7 => ?_) (fun c7 => ?_)
  · replace hf := ite_f hf c7
    refine lv_iconst (v := 0) hx hb dX6_lightOf_21 (by decide) ?_
    exact P_22 _ _ _ _ _ _ _ hW (lv_sub hl [0, 1, 2, 3] rfl) hf
  · replace hf := ite_t hf c7
    refine lv_aload_n hx hb dX6_lightOf_13 rfl (lv_at hl 0 rfl) ?_
    refine lv_iload_n hx hb dX6_lightOf_14 rfl (lv_at hl 1 rfl) ?_
    obtain ⟨r5, e4, hf⟩ := bnd_ex hf
    refine k_i X hW (k_V (As := [.int x1]) (rest := []) X hW hml hl.1 (c_X6_light l g hDW  _ mm _ e4) (r_recv X hW 21 0 (by decide) (by decide) rfl rfl) ⟨mw_1113, kw_X6_light⟩ ⟨⟨rfl, rfl⟩, ko_X6_light, ⟨Nat.le_of_ble_eq_true rfl, Nat.le_of_ble_eq_true rfl⟩⟩ rfl rfl (Nat.le_of_ble_eq_true rfl) dX6_lightOf_15 ⟨Nat.le_of_ble_eq_true rfl, Nat.le_of_ble_eq_true rfl⟩) (fun H locs hW => ?_)
    refine lv_goto (tgt := 22) hx hb dX6_lightOf_18 (by decide) ?_
    exact P_22 _ _ _ _ _ _ _ hW (lv_sub hl [0, 1, 2, 3] rfl) hf
set_option maxRecDepth 100000 in
set_option maxHeartbeats 4000000 in
theorem c_X6_left (l : Launch) (g : gG) (hDW : DW g) (x1 : Int32) (mm : gM) (r0 : Int32) (hf : fX6_left x1 mm = some r0) : Met l yX6_left (Cond.code yX6_left cX6_left 3 (some .int) :: ALLW) rm_X6_left (CPre g mm [.ref (ad g 21 0), .int x1]) (CI g mm r0) 0 0 (gA g) := by
  refine Met.ofW (cc := cX6_left) (maxL := 3) (ret := (some .int)) (by decide) rfl ?_
  intro p e s m args below meth c s₁ B hml hv
  obtain ⟨ha, hFx, hP0, hlo⟩ := hv
  have X : Cx g p s m args c meth RX6 cX6_left := Cx_of hDW hFx hlo B
  have hx := X.1
  have hb := X.2.1
  have hr := B.returns
  have hlocks := X.2.2.2.2.2.2.2
  have hW : Wd g mm s s.heap [] := ⟨hP0, va_S.rf⟩
  rw [ha, lg_entry_eq]
  have hl := lv_entry ([.ref (ad g 21 0), .int x1] : List Value) (n := 3) (Nat.le_of_ble_eq_true rfl)
  generalize (lg_sl ([.ref (ad g 21 0), .int x1] : List Value) ++ List.replicate (3 - (lg_sl ([.ref (ad g 21 0), .int x1] : List Value)).length) Slot.unset).toArray = ls at hl ⊢
  have hl : lv_has ls 3 [(0, .ref (ad g 21 0)), (1, .int x1)] := hl
  rw [← ha]
  show W p l e rm_X6_left s m args below meth c s.heap [] 0 0 (MQ below (CI g mm r0) args s 0 0 (gA g)) (F0 m 0 ls [])
  unfold fX6_left at hf
  refine lv_iload_n hx hb dX6_left_0 rfl (lv_at hl 1 rfl) ?_
  refine lv_iload_n hx hb dX6_left_1 rfl (lv_at hl 1 rfl) ?_
  refine lv_aload_n hx hb dX6_left_2 rfl (lv_at hl 0 rfl) ?_
  refine gf_21_1 X hW (by decide) mw_948 dX6_left_3 ?_
  refine lv_iconst (v := 2) hx hb dX6_left_6 (by decide) ?_
  obtain ⟨b1, hf⟩ := chk_ex hf
  refine r_iald X hW 22 0 (by decide) (by decide) rfl b1 dX6_left_7 ?_
  obtain ⟨b2, hf⟩ := chk_ex hf
  refine lv_idiv hx hb dX6_left_8 b2 ?_
  refine lv_isub hx hb dX6_left_9 ?_
  refine lv_iconst (v := 1) hx hb dX6_left_10 (by decide) ?_
  refine lv_isub hx hb dX6_left_11 ?_
  obtain ⟨v3, ex, hf⟩ := wth_ex hf
  refine lv_nm ex ?_
  clear ex
  refine lv_istore_n (lv' := [(2, .int v3), (0, .ref (ad g 21 0)), (1, .int x1)]) hx hb dX6_left_12 rfl hl (by decide) rfl (fun ls hl => ?_)
  refine lv_iload_n hx hb dX6_left_13 rfl (lv_at hl 0 rfl) ?_
  refine lv_if_ge (tgt := 21) hx hb dX6_left_14 (by decide) (fun c4 => ?_) (fun c4 => ?_)
  · replace hf := ite_t hf c4
    refine lv_iload_n hx hb dX6_left_21 rfl (lv_at hl 0 rfl) ?_
    exact e_i X hr hW (someinj hf) dX6_left_22
  · replace hf := ite_f hf c4
    refine lv_iconst (v := 0) hx hb dX6_left_17 (by decide) ?_
    refine lv_goto (tgt := 22) hx hb dX6_left_18 (by decide) ?_
    exact e_i X hr hW (someinj hf) dX6_left_22
set_option maxRecDepth 100000 in
set_option maxHeartbeats 4000000 in
theorem c_X6_ticks (l : Launch) (g : gG) (hDW : DW g) (x1 : Int32) (mm : gM) (mZ : gM) (hf : fX6_ticks x1 mm = some mZ) : Met l yX6_ticks (Cond.code yX6_ticks cX6_ticks 9 none :: ALLW) rm_X6_ticks (CPre g mm [.ref (ad g 21 0), .int x1]) (CV g mZ) 0 0 (gA g) := by
  refine Met.ofW (cc := cX6_ticks) (maxL := 9) (ret := none) (by decide) rfl ?_
  intro p e s m args below meth c s₁ B hml hv
  obtain ⟨ha, hFx, hP0, hlo⟩ := hv
  have X : Cx g p s m args c meth RX6 cX6_ticks := Cx_of hDW hFx hlo B
  have hx := X.1
  have hb := X.2.1
  have hr := B.returns
  have hlocks := X.2.2.2.2.2.2.2
  have hW : Wd g mm s s.heap [] := ⟨hP0, va_S.rf⟩
  rw [ha, lg_entry_eq]
  have hl := lv_entry ([.ref (ad g 21 0), .int x1] : List Value) (n := 9) (Nat.le_of_ble_eq_true rfl)
  generalize (lg_sl ([.ref (ad g 21 0), .int x1] : List Value) ++ List.replicate (9 - (lg_sl ([.ref (ad g 21 0), .int x1] : List Value)).length) Slot.unset).toArray = ls at hl ⊢
  have hl : lv_has ls 9 [(0, .ref (ad g 21 0)), (1, .int x1)] := hl
  rw [← ha]
  show W p l e rm_X6_ticks s m args below meth c s.heap [] 0 0 (MQ below (CV g mZ) args s 0 0 (gA g)) (F0 m 0 ls [])
  have P_20 : ∀ (n20 : Nat) (x3 : Int32) (x4 : Int32) (x5 : Int32) (mm : gM) (H : Heap) (locs : List Loc) (ls : Array Slot), Wd g mm s H locs → lv_has ls 9 [(0, .ref (ad g 21 0)), (3, .int x3), (4, .int x4), (5, .int x5)] → lX6_ticks_20 n20 x3 x4 x5 mm = some mZ → W p l e rm_X6_ticks s m args below meth c H locs 0 0 (MQ below (CV g mZ) args s 0 0 (gA g)) (F0 m 20 ls []) := by
    intro n20
    induction n20 with
    | zero => intro x3 x4 x5 mm H locs ls hW hl hf; exact (no_some hf).elim
    | succ n20 ih_20 =>
      have P_124 : ∀ (x3 : Int32) (x4 : Int32) (x5 : Int32) (s1 : Int32) (s2 : Int32) (mm : gM) (H : Heap) (locs : List Loc) (ls : Array Slot), Wd g mm s H locs → lv_has ls 9 [(0, .ref (ad g 21 0)), (3, .int x3), (4, .int x4), (5, .int x5)] → jX6_ticks_124 (lX6_ticks_20 n20) x3 x4 x5 s1 s2 mm = some mZ → W p l e rm_X6_ticks s m args below meth c H locs 0 0 (MQ below (CV g mZ) args s 0 0 (gA g)) (F0 m 124 ls [.int s2, .int s1, .ref (ad g 29 0)]) := by
        intro x3 x4 x5 s1 s2 mm H locs ls hW hl hf
        unfold jX6_ticks_124 at hf
        obtain ⟨b23, hf⟩ := chk_ex hf
        obtain ⟨m24, ex, hf⟩ := wth_ex hf
        refine r_iast X hW 29 0 (by decide) (by decide) (fun _ => rfl) b23 dX6_ticks_124 (fun H locs hW => ?_)
        replace hW := hW.same ex
        clear ex
        refine lv_iinc (v := x5 + 1) (lv' := [(5, .int (x5 + 1)), (0, .ref (ad g 21 0)), (3, .int x3), (4, .int x4)]) hx hb dX6_ticks_125 hl (k := 3) rfl rfl (by decide) rfl (fun ls hl => ?_)
        refine lv_goto (tgt := 20) hx hb dX6_ticks_128 (by decide) ?_
        exact ih_20 _ _ _ _ _ _ _ hW (lv_sub hl [1, 2, 3, 0] rfl) hf
      have P_89 : ∀ (x3 : Int32) (x4 : Int32) (x5 : Int32) (s0 : Int32) (mm : gM) (H : Heap) (locs : List Loc) (ls : Array Slot), Wd g mm s H locs → lv_has ls 9 [(0, .ref (ad g 21 0)), (3, .int x3), (4, .int x4), (5, .int x5)] → jX6_ticks_89 (lX6_ticks_20 n20) x3 x4 x5 s0 mm = some mZ → W p l e rm_X6_ticks s m args below meth c H locs 0 0 (MQ below (CV g mZ) args s 0 0 (gA g)) (F0 m 89 ls [.int s0]) := by
        intro x3 x4 x5 s0 mm H locs ls hW hl hf
        unfold jX6_ticks_89 at hf
        refine lv_istore (lv' := [(7, .int s0), (0, .ref (ad g 21 0)), (3, .int x3), (4, .int x4), (5, .int x5)]) hx hb dX6_ticks_89 hl (by decide) rfl (fun ls hl => ?_)
        refine lv_aload_n hx hb dX6_ticks_91 rfl (lv_at hl 1 rfl) ?_
        refine lv_aload_n hx hb dX6_ticks_92 rfl (lv_at hl 1 rfl) ?_
        refine gf_21_13 X hW (by decide) mw_960 dX6_ticks_93 ?_
        refine lv_iload hx hb dX6_ticks_96 (lv_at hl 4 rfl) ?_
        obtain ⟨b15, hf⟩ := chk_ex hf
        refine r_iald X hW 29 0 (by decide) (by decide) rfl b15 dX6_ticks_98 ?_
        obtain ⟨r17, e16, hf⟩ := bnd_ex hf
        refine k_i X hW (k_V (As := [.int (gi mm 29 0 x5.toNatClampNeg)]) (rest := []) X hW hml hl.1 (c_X6_left l g hDW  _ mm _ e16) (r_recv X hW 21 0 (by decide) (by decide) rfl rfl) ⟨mw_1121, kw_X6_left⟩ ⟨⟨rfl, rfl⟩, ko_X6_left, ⟨Nat.le_of_ble_eq_true rfl, Nat.le_of_ble_eq_true rfl⟩⟩ rfl rfl (Nat.le_of_ble_eq_true rfl) dX6_ticks_99 ⟨Nat.le_of_ble_eq_true rfl, Nat.le_of_ble_eq_true rfl⟩) (fun H locs hW => ?_)
        refine lv_istore (lv' := [(8, .int r17), (7, .int s0), (0, .ref (ad g 21 0)), (3, .int x3), (4, .int x4), (5, .int x5)]) hx hb dX6_ticks_102 hl (by decide) rfl (fun ls hl => ?_)
        refine lv_aload_n hx hb dX6_ticks_104 rfl (lv_at hl 2 rfl) ?_
        refine gf_21_13 X hW (by decide) mw_960 dX6_ticks_105 ?_
        refine lv_iload hx hb dX6_ticks_108 (lv_at hl 5 rfl) ?_
        refine lv_iload hx hb dX6_ticks_110 (lv_at hl 1 rfl) ?_
        refine lv_iload hx hb dX6_ticks_112 (lv_at hl 0 rfl) ?_
        refine lv_icmp_le (tgt := 122) hx hb dX6_ticks_114 (by decide) (fun c19 => ?_) (fun c19 => ?_)
        · replace hf := ite_t hf c19
          refine lv_iload hx hb dX6_ticks_122 (lv_at hl 0 rfl) ?_
          exact P_124 _ _ _ _ _ _ _ _ _ hW (lv_sub hl [2, 3, 4, 5] rfl) hf
        · replace hf := ite_f hf c19
          refine lv_iload hx hb dX6_ticks_117 (lv_at hl 1 rfl) ?_
          refine lv_goto (tgt := 124) hx hb dX6_ticks_119 (by decide) ?_
          exact P_124 _ _ _ _ _ _ _ _ _ hW (lv_sub hl [2, 3, 4, 5] rfl) hf
      have P_82 : ∀ (x3 : Int32) (x4 : Int32) (x5 : Int32) (s1 : Int32) (s2 : Int32) (s3 : Int32) (mm : gM) (H : Heap) (locs : List Loc) (ls : Array Slot), Wd g mm s H locs → lv_has ls 9 [(0, .ref (ad g 21 0)), (3, .int x3), (4, .int x4), (5, .int x5)] → jX6_ticks_82 (lX6_ticks_20 n20) x3 x4 x5 s1 s2 s3 mm = some mZ → W p l e rm_X6_ticks s m args below meth c H locs 0 0 (MQ below (CV g mZ) args s 0 0 (gA g)) (F0 m 82 ls [.int s3, .int s2, .int s1, .ref (ad g 21 0)]) := by
        intro x3 x4 x5 s1 s2 s3 mm H locs ls hW hl hf
        unfold jX6_ticks_82 at hf
        obtain ⟨r21, e20, hf⟩ := bnd_ex hf
        refine k_i X hW (k_V (As := [.int s1, .int s2, .int s3]) (rest := []) X hW hml hl.1 (c_X6_lightOf l g hDW  _ _ _ mm _ e20) (r_recv X hW 21 0 (by decide) (by decide) rfl rfl) ⟨mw_1109, kw_X6_lightOf⟩ ⟨⟨rfl, rfl⟩, ko_X6_lightOf, ⟨Nat.le_of_ble_eq_true rfl, Nat.le_of_ble_eq_true rfl⟩⟩ rfl rfl (Nat.le_of_ble_eq_true rfl) dX6_ticks_82 ⟨Nat.le_of_ble_eq_true rfl, Nat.le_of_ble_eq_true rfl⟩) (fun H locs hW => ?_)
        refine lv_goto (tgt := 89) hx hb dX6_ticks_85 (by decide) ?_
        exact P_89 _ _ _ _ _ _ _ _ hW (lv_sub hl [0, 1, 2, 3] rfl) hf
      have P_52 : ∀ (x3 : Int32) (x4 : Int32) (x5 : Int32) (s0 : Int32) (mm : gM) (H : Heap) (locs : List Loc) (ls : Array Slot), Wd g mm s H locs → lv_has ls 9 [(0, .ref (ad g 21 0)), (3, .int x3), (4, .int x4), (5, .int x5)] → jX6_ticks_52 (lX6_ticks_20 n20) x3 x4 x5 s0 mm = some mZ → W p l e rm_X6_ticks s m args below meth c H locs 0 0 (MQ below (CV g mZ) args s 0 0 (gA g)) (F0 m 52 ls [.int s0]) := by
        intro x3 x4 x5 s0 mm H locs ls hW hl hf
        unfold jX6_ticks_52 at hf
        refine lv_istore (lv' := [(6, .int s0), (0, .ref (ad g 21 0)), (3, .int x3), (4, .int x4), (5, .int x5)]) hx hb dX6_ticks_52 hl (by decide) rfl (fun ls hl => ?_)
        refine lv_iload hx hb dX6_ticks_54 (lv_at hl 0 rfl) ?_
        refine lv_if_eq (tgt := 88) hx hb dX6_ticks_56 (by decide) (fun c14 => ?_) (fun c14 => ?_)
        · replace hf := ite_t hf c14
          refine lv_iconst (v := 0) hx hb dX6_ticks_88 (by decide) ?_
          exact P_89 _ _ _ _ _ _ _ _ hW (lv_sub hl [1, 2, 3, 4] rfl) hf
        · replace hf := ite_f hf c14
          refine lv_aload_n hx hb dX6_ticks_59 rfl (lv_at hl 1 rfl) ?_
          refine lv_iload_n hx hb dX6_ticks_60 rfl (lv_at hl 2 rfl) ?_
          refine lv_iload hx hb dX6_ticks_61 (lv_at hl 4 rfl) ?_
          refine lv_bipush (v := 8) hx hb dX6_ticks_63 (by decide) ?_
          obtain ⟨b11, hf⟩ := chk_ex hf
          refine r_irem hx hb dX6_ticks_65 b11 ?_
          refine lv_iload hx hb dX6_ticks_66 (lv_at hl 3 rfl) ?_
          refine lv_aload_n hx hb dX6_ticks_68 rfl (lv_at hl 1 rfl) ?_
          refine gf_21_1 X hW (by decide) mw_948 dX6_ticks_69 ?_
          refine lv_iconst (v := 0) hx hb dX6_ticks_72 (by decide) ?_
          obtain ⟨b12, hf⟩ := chk_ex hf
          refine r_iald X hW 22 0 (by decide) (by decide) rfl b12 dX6_ticks_73 ?_
          refine lv_icmp_ne (tgt := 81) hx hb dX6_ticks_74 (by decide) (fun c13 => ?_) (fun c13 => ?_)
          · replace hf := ite_f hf c13
            refine lv_iconst (v := 0) hx hb dX6_ticks_81 (by decide) ?_
            exact P_82 _ _ _ _ _ _ _ _ _ _ hW (lv_sub hl [1, 2, 3, 4] rfl) hf
          · replace hf := ite_t hf c13
            refine lv_iconst (v := 1) hx hb dX6_ticks_77 (by decide) ?_
            refine lv_goto (tgt := 82) hx hb dX6_ticks_78 (by decide) ?_
            exact P_82 _ _ _ _ _ _ _ _ _ _ hW (lv_sub hl [1, 2, 3, 4] rfl) hf
      have P_51 : ∀ (x3 : Int32) (x4 : Int32) (x5 : Int32) (mm : gM) (H : Heap) (locs : List Loc) (ls : Array Slot), Wd g mm s H locs → lv_has ls 9 [(0, .ref (ad g 21 0)), (3, .int x3), (4, .int x4), (5, .int x5)] → jX6_ticks_51 (lX6_ticks_20 n20) x3 x4 x5 mm = some mZ → W p l e rm_X6_ticks s m args below meth c H locs 0 0 (MQ below (CV g mZ) args s 0 0 (gA g)) (F0 m 51 ls []) := by
        intro x3 x4 x5 mm H locs ls hW hl hf
        unfold jX6_ticks_51 at hf
        refine lv_iconst (v := 0) hx hb dX6_ticks_51 (by decide) ?_
        exact P_52 _ _ _ _ _ _ _ _ hW (lv_sub hl [0, 1, 2, 3] rfl) hf
      intro x3 x4 x5 mm H locs ls hW hl hf
      rw [lX6_ticks_20_s] at hf
      refine lv_iload hx hb dX6_ticks_20 (lv_at hl 3 rfl) ?_
      refine lv_bipush (v := 48) hx hb dX6_ticks_22 (by decide) ?_
      refine lv_icmp_ge (tgt := 131) hx hb dX6_ticks_24 (by decide) (fun c10 => ?_) (fun c10 => ?_)
      · replace hf := ite_t hf c10
        replace hW := hW.same (someinj hf).symm
        exact e_v X hr hW dX6_ticks_131
      · replace hf := ite_f hf c10
        refine lv_iload hx hb dX6_ticks_27 (lv_at hl 3 rfl) ?_
        refine lv_bipush (v := 8) hx hb dX6_ticks_29 (by decide) ?_
        obtain ⟨b6, hf⟩ := chk_ex hf
        refine lv_idiv hx hb dX6_ticks_31 b6 ?_
        refine lv_iload_n hx hb dX6_ticks_32 rfl (lv_at hl 1 rfl) ?_
        refine lv_icmp_ne (tgt := 51) hx hb dX6_ticks_33 (by decide) (fun c9 => ?_) (fun c9 => ?_)
        · replace hf := ite_f hf c9
          exact P_51 _ _ _ _ _ _ _ hW (lv_sub hl [0, 1, 2, 3] rfl) hf
        · replace hf := ite_t hf c9
          refine lv_iload hx hb dX6_ticks_36 (lv_at hl 2 rfl) ?_
          refine lv_aload_n hx hb dX6_ticks_38 rfl (lv_at hl 0 rfl) ?_
          refine gf_21_1 X hW (by decide) mw_948 dX6_ticks_39 ?_
          refine lv_iconst (v := 0) hx hb dX6_ticks_42 (by decide) ?_
          obtain ⟨b7, hf⟩ := chk_ex hf
          refine r_iald X hW 22 0 (by decide) (by decide) rfl b7 dX6_ticks_43 ?_
          refine lv_icmp_lt (tgt := 51) hx hb dX6_ticks_44 (by decide) (fun c8 => ?_) (fun c8 => ?_)
          · replace hf := ite_t hf c8
            exact P_51 _ _ _ _ _ _ _ hW (lv_sub hl [0, 1, 2, 3] rfl) hf
          · replace hf := ite_f hf c8
            refine lv_iconst (v := 1) hx hb dX6_ticks_47 (by decide) ?_
            refine lv_goto (tgt := 52) hx hb dX6_ticks_48 (by decide) ?_
            exact P_52 _ _ _ _ _ _ _ _ hW (lv_sub hl [0, 1, 2, 3] rfl) hf
  unfold fX6_ticks at hf
  refine lv_aload_n hx hb dX6_ticks_0 rfl (lv_at hl 0 rfl) ?_
  refine lv_iload_n hx hb dX6_ticks_1 rfl (lv_at hl 1 rfl) ?_
  obtain ⟨r2, e1, hf⟩ := bnd_ex hf
  refine k_i X hW (k_V (As := [.int x1]) (rest := []) X hW hml hl.1 (c_X6_slotAt l g hDW  _ mm _ e1) (r_recv X hW 21 0 (by decide) (by decide) rfl rfl) ⟨mw_1105, kw_X6_slotAt⟩ ⟨⟨rfl, rfl⟩, ko_X6_slotAt, ⟨Nat.le_of_ble_eq_true rfl, Nat.le_of_ble_eq_true rfl⟩⟩ rfl rfl (Nat.le_of_ble_eq_true rfl) dX6_ticks_2 ⟨Nat.le_of_ble_eq_true rfl, Nat.le_of_ble_eq_true rfl⟩) (fun H locs hW => ?_)
  refine lv_istore_n (lv' := [(2, .int r2), (0, .ref (ad g 21 0)), (1, .int x1)]) hx hb dX6_ticks_5 rfl hl (by decide) rfl (fun ls hl => ?_)
  refine lv_iload_n hx hb dX6_ticks_6 rfl (lv_at hl 0 rfl) ?_
  refine lv_bipush (v := 100) hx hb dX6_ticks_7 (by decide) ?_
  obtain ⟨b4, hf⟩ := chk_ex hf
  refine lv_idiv hx hb dX6_ticks_9 b4 ?_
  refine lv_istore_n (lv' := [(3, .int (r2 / 100)), (2, .int r2), (0, .ref (ad g 21 0)), (1, .int x1)]) hx hb dX6_ticks_10 rfl hl (by decide) rfl (fun ls hl => ?_)
  refine lv_iload_n hx hb dX6_ticks_11 rfl (lv_at hl 1 rfl) ?_
  refine lv_bipush (v := 100) hx hb dX6_ticks_12 (by decide) ?_
  obtain ⟨b5, hf⟩ := chk_ex hf
  refine r_irem hx hb dX6_ticks_14 b5 ?_
  refine lv_istore (lv' := [(4, .int (irm r2 100)), (3, .int (r2 / 100)), (2, .int r2), (0, .ref (ad g 21 0)), (1, .int x1)]) hx hb dX6_ticks_15 hl (by decide) rfl (fun ls hl => ?_)
  refine lv_iconst (v := 0) hx hb dX6_ticks_17 (by decide) ?_
  refine lv_istore (lv' := [(5, .int 0), (4, .int (irm r2 100)), (3, .int (r2 / 100)), (2, .int r2), (0, .ref (ad g 21 0)), (1, .int x1)]) hx hb dX6_ticks_18 hl (by decide) rfl (fun ls hl => ?_)
  exact P_20 _ _ _ _ _ _ _ _ hW (lv_sub hl [4, 2, 1, 0] rfl) hf
set_option maxRecDepth 100000 in
set_option maxHeartbeats 4000000 in
theorem c_X6_copiesGlows (l : Launch) (g : gG) (hDW : DW g) (mm : gM) (mZ : gM) (hf : fX6_copiesGlows mm = some mZ) : Met l yX6_copiesGlows (Cond.code yX6_copiesGlows cX6_copiesGlows 2 none :: ALLW) rm_X6_copiesGlows (CPre g mm [.ref (ad g 21 0)]) (CV g mZ) 0 0 (gA g) := by
  refine Met.ofW (cc := cX6_copiesGlows) (maxL := 2) (ret := none) (by decide) rfl ?_
  intro p e s m args below meth c s₁ B hml hv
  obtain ⟨ha, hFx, hP0, hlo⟩ := hv
  have X : Cx g p s m args c meth RX6 cX6_copiesGlows := Cx_of hDW hFx hlo B
  have hx := X.1
  have hb := X.2.1
  have hr := B.returns
  have hlocks := X.2.2.2.2.2.2.2
  have hW : Wd g mm s s.heap [] := ⟨hP0, va_S.rf⟩
  rw [ha, lg_entry_eq]
  have hl := lv_entry ([.ref (ad g 21 0)] : List Value) (n := 2) (Nat.le_of_ble_eq_true rfl)
  generalize (lg_sl ([.ref (ad g 21 0)] : List Value) ++ List.replicate (2 - (lg_sl ([.ref (ad g 21 0)] : List Value)).length) Slot.unset).toArray = ls at hl ⊢
  have hl : lv_has ls 2 [(0, .ref (ad g 21 0))] := hl
  rw [← ha]
  show W p l e rm_X6_copiesGlows s m args below meth c s.heap [] 0 0 (MQ below (CV g mZ) args s 0 0 (gA g)) (F0 m 0 ls [])
  have P_2 : ∀ (n2 : Nat) (x1 : Int32) (mm : gM) (H : Heap) (locs : List Loc) (ls : Array Slot), Wd g mm s H locs → lv_has ls 2 [(0, .ref (ad g 21 0)), (1, .int x1)] → lX6_copiesGlows_2 n2 x1 mm = some mZ → W p l e rm_X6_copiesGlows s m args below meth c H locs 0 0 (MQ below (CV g mZ) args s 0 0 (gA g)) (F0 m 2 ls []) := by
    intro n2
    induction n2 with
    | zero => intro x1 mm H locs ls hW hl hf; exact (no_some hf).elim
    | succ n2 ih_2 =>
      intro x1 mm H locs ls hW hl hf
      rw [lX6_copiesGlows_2_s] at hf
      refine lv_iload_n hx hb dX6_copiesGlows_2 rfl (lv_at hl 1 rfl) ?_
      refine lv_bipush (v := 48) hx hb dX6_copiesGlows_3 (by decide) ?_
      refine lv_icmp_ge (tgt := 29) hx hb dX6_copiesGlows_5 (by decide) (fun c4 => ?_) (fun c4 => ?_)
      · replace hf := ite_t hf c4
        replace hW := hW.same (someinj hf).symm
        exact e_v X hr hW dX6_copiesGlows_29
      · replace hf := ite_f hf c4
        refine lv_aload_n hx hb dX6_copiesGlows_8 rfl (lv_at hl 0 rfl) ?_
        refine gf_21_13 X hW (by decide) mw_960 dX6_copiesGlows_9 ?_
        refine lv_iload_n hx hb dX6_copiesGlows_12 rfl (lv_at hl 1 rfl) ?_
        refine lv_aload_n hx hb dX6_copiesGlows_13 rfl (lv_at hl 0 rfl) ?_
        refine gf_21_1 X hW (by decide) mw_948 dX6_copiesGlows_14 ?_
        refine lv_bipush (v := 32) hx hb dX6_copiesGlows_17 (by decide) ?_
        refine lv_iload_n hx hb dX6_copiesGlows_19 rfl (lv_at hl 1 rfl) ?_
        refine lv_iadd hx hb dX6_copiesGlows_20 ?_
        obtain ⟨b1, hf⟩ := chk_ex hf
        refine r_iald X hW 22 0 (by decide) (by decide) rfl b1 dX6_copiesGlows_21 ?_
        obtain ⟨b2, hf⟩ := chk_ex hf
        obtain ⟨m3, ex, hf⟩ := wth_ex hf
        refine r_iast X hW 29 0 (by decide) (by decide) (fun _ => rfl) b2 dX6_copiesGlows_22 (fun H locs hW => ?_)
        replace hW := hW.same ex
        clear ex
        refine lv_iinc (v := x1 + 1) (lv' := [(1, .int (x1 + 1)), (0, .ref (ad g 21 0))]) hx hb dX6_copiesGlows_23 hl (k := 1) rfl rfl (by decide) rfl (fun ls hl => ?_)
        refine lv_goto (tgt := 2) hx hb dX6_copiesGlows_26 (by decide) ?_
        exact ih_2 _ _ _ _ _ hW (lv_sub hl [1, 0] rfl) hf
  unfold fX6_copiesGlows at hf
  refine lv_iconst (v := 0) hx hb dX6_copiesGlows_0 (by decide) ?_
  refine lv_istore_n (lv' := [(1, .int 0), (0, .ref (ad g 21 0))]) hx hb dX6_copiesGlows_1 rfl hl (by decide) rfl (fun ls hl => ?_)
  exact P_2 _ _ _ _ _ _ hW (lv_sub hl [1, 0] rfl) hf
set_option maxRecDepth 100000 in
set_option maxHeartbeats 4000000 in
theorem c_X6_views (l : Launch) (g : gG) (hDW : DW g) (mm : gM) (mZ : gM) (hf : fX6_views mm = some mZ) : Met l yX6_views (Cond.code yX6_views cX6_views 5 none :: ALLW) rm_X6_views (CPre g mm [.ref (ad g 21 0)]) (CV g mZ) 0 0 (gA g) := by
  refine Met.ofW (cc := cX6_views) (maxL := 5) (ret := none) (by decide) rfl ?_
  intro p e s m args below meth c s₁ B hml hv
  obtain ⟨ha, hFx, hP0, hlo⟩ := hv
  have X : Cx g p s m args c meth RX6 cX6_views := Cx_of hDW hFx hlo B
  have hx := X.1
  have hb := X.2.1
  have hr := B.returns
  have hlocks := X.2.2.2.2.2.2.2
  have hW : Wd g mm s s.heap [] := ⟨hP0, va_S.rf⟩
  rw [ha, lg_entry_eq]
  have hl := lv_entry ([.ref (ad g 21 0)] : List Value) (n := 5) (Nat.le_of_ble_eq_true rfl)
  generalize (lg_sl ([.ref (ad g 21 0)] : List Value) ++ List.replicate (5 - (lg_sl ([.ref (ad g 21 0)] : List Value)).length) Slot.unset).toArray = ls at hl ⊢
  have hl : lv_has ls 5 [(0, .ref (ad g 21 0))] := hl
  rw [← ha]
  show W p l e rm_X6_views s m args below meth c s.heap [] 0 0 (MQ below (CV g mZ) args s 0 0 (gA g)) (F0 m 0 ls [])
  have P_46 : ∀ (n46 : Nat) (x1 : Int32) (x2 : Int32) (mm : gM) (H : Heap) (locs : List Loc) (ls : Array Slot), Wd g mm s H locs → lv_has ls 5 [(0, .ref (ad g 21 0)), (1, .int x1), (2, .int x2)] → lX6_views_46 n46 x1 x2 mm = some mZ → W p l e rm_X6_views s m args below meth c H locs 0 0 (MQ below (CV g mZ) args s 0 0 (gA g)) (F0 m 46 ls []) := by
    intro n46
    induction n46 with
    | zero => intro x1 x2 mm H locs ls hW hl hf; exact (no_some hf).elim
    | succ n46 ih_46 =>
      have P_195 : ∀ (x1 : Int32) (x2 : Int32) (mm : gM) (H : Heap) (locs : List Loc) (ls : Array Slot), Wd g mm s H locs → lv_has ls 5 [(0, .ref (ad g 21 0)), (1, .int x1), (2, .int x2)] → jX6_views_195 (lX6_views_46 n46) x1 x2 mm = some mZ → W p l e rm_X6_views s m args below meth c H locs 0 0 (MQ below (CV g mZ) args s 0 0 (gA g)) (F0 m 195 ls []) := by
        intro x1 x2 mm H locs ls hW hl hf
        unfold jX6_views_195 at hf
        refine lv_iinc (v := x2 + 1) (lv' := [(2, .int (x2 + 1)), (0, .ref (ad g 21 0)), (1, .int x1)]) hx hb dX6_views_195 hl (k := 2) rfl rfl (by decide) rfl (fun ls hl => ?_)
        refine lv_goto (tgt := 46) hx hb dX6_views_198 (by decide) ?_
        exact ih_46 _ _ _ _ _ _ hW (lv_sub hl [1, 2, 0] rfl) hf
      have P_71 : ∀ (n71 : Nat) (x1 : Int32) (x2 : Int32) (x3 : Int32) (x4 : Int32) (mm : gM) (H : Heap) (locs : List Loc) (ls : Array Slot), Wd g mm s H locs → lv_has ls 5 [(0, .ref (ad g 21 0)), (1, .int x1), (2, .int x2), (3, .int x3), (4, .int x4)] → lX6_views_71 (lX6_views_46 n46) n71 x1 x2 x3 x4 mm = some mZ → W p l e rm_X6_views s m args below meth c H locs 0 0 (MQ below (CV g mZ) args s 0 0 (gA g)) (F0 m 71 ls []) := by
        intro n71
        induction n71 with
        | zero => intro x1 x2 x3 x4 mm H locs ls hW hl hf; exact (no_some hf).elim
        | succ n71 ih_71 =>
          have P_188 : ∀ (x1 : Int32) (x2 : Int32) (x3 : Int32) (x4 : Int32) (s1 : Int32) (s2 : Int32) (mm : gM) (H : Heap) (locs : List Loc) (ls : Array Slot), Wd g mm s H locs → lv_has ls 5 [(0, .ref (ad g 21 0)), (1, .int x1), (2, .int x2), (3, .int x3), (4, .int x4)] → jX6_views_188 (lX6_views_46 n46) (lX6_views_71 (lX6_views_46 n46) n71) x1 x2 x3 x4 s1 s2 mm = some mZ → W p l e rm_X6_views s m args below meth c H locs 0 0 (MQ below (CV g mZ) args s 0 0 (gA g)) (F0 m 188 ls [.int s2, .int s1, .ref (ad g 32 0)]) := by
            intro x1 x2 x3 x4 s1 s2 mm H locs ls hW hl hf
            unfold jX6_views_188 at hf
            obtain ⟨b39, hf⟩ := chk_ex hf
            obtain ⟨m40, ex, hf⟩ := wth_ex hf
            refine r_iast X hW 32 0 (by decide) (by decide) (fun _ => rfl) b39 dX6_views_188 (fun H locs hW => ?_)
            replace hW := hW.same ex
            clear ex
            refine lv_iinc (v := x4 + 1) (lv' := [(4, .int (x4 + 1)), (0, .ref (ad g 21 0)), (1, .int x1), (2, .int x2), (3, .int x3)]) hx hb dX6_views_189 hl (k := 4) rfl rfl (by decide) rfl (fun ls hl => ?_)
            refine lv_goto (tgt := 71) hx hb dX6_views_192 (by decide) ?_
            exact ih_71 _ _ _ _ _ _ _ _ hW (lv_sub hl [1, 2, 3, 4, 0] rfl) hf
          have P_171 : ∀ (x1 : Int32) (x2 : Int32) (x3 : Int32) (x4 : Int32) (s1 : Int32) (mm : gM) (H : Heap) (locs : List Loc) (ls : Array Slot), Wd g mm s H locs → lv_has ls 5 [(0, .ref (ad g 21 0)), (1, .int x1), (2, .int x2), (3, .int x3), (4, .int x4)] → jX6_views_171 (lX6_views_46 n46) (lX6_views_71 (lX6_views_46 n46) n71) x1 x2 x3 x4 s1 mm = some mZ → W p l e rm_X6_views s m args below meth c H locs 0 0 (MQ below (CV g mZ) args s 0 0 (gA g)) (F0 m 171 ls [.int s1, .ref (ad g 32 0)]) := by
            intro x1 x2 x3 x4 s1 mm H locs ls hW hl hf
            unfold jX6_views_171 at hf
            refine lv_aload_n hx hb dX6_views_171 rfl (lv_at hl 0 rfl) ?_
            refine gf_21_13 X hW (by decide) mw_960 dX6_views_172 ?_
            refine lv_iload hx hb dX6_views_175 (lv_at hl 4 rfl) ?_
            obtain ⟨b38, hf⟩ := chk_ex hf
            refine r_iald X hW 29 0 (by decide) (by decide) rfl b38 dX6_views_177 ?_
            refine lv_goto (tgt := 188) hx hb dX6_views_178 (by decide) ?_
            exact P_188 _ _ _ _ _ _ _ _ _ _ hW (lv_sub hl [0, 1, 2, 3, 4] rfl) hf
          have P_143 : ∀ (x1 : Int32) (x2 : Int32) (x3 : Int32) (x4 : Int32) (s1 : Int32) (s2 : Int32) (mm : gM) (H : Heap) (locs : List Loc) (ls : Array Slot), Wd g mm s H locs → lv_has ls 5 [(0, .ref (ad g 21 0)), (1, .int x1), (2, .int x2), (3, .int x3), (4, .int x4)] → jX6_views_143 (lX6_views_46 n46) (lX6_views_71 (lX6_views_46 n46) n71) x1 x2 x3 x4 s1 s2 mm = some mZ → W p l e rm_X6_views s m args below meth c H locs 0 0 (MQ below (CV g mZ) args s 0 0 (gA g)) (F0 m 143 ls [.int s2, .int s1, .ref (ad g 31 0)]) := by
            intro x1 x2 x3 x4 s1 s2 mm H locs ls hW hl hf
            unfold jX6_views_143 at hf
            obtain ⟨b31, hf⟩ := chk_ex hf
            obtain ⟨m32, ex, hf⟩ := wth_ex hf
            refine r_iast X hW 31 0 (by decide) (by decide) (fun _ => rfl) b31 dX6_views_143 (fun H locs hW => ?_)
            replace hW := hW.same ex
            clear ex
            refine lv_aload_n hx hb dX6_views_144 rfl (lv_at hl 0 rfl) ?_
            refine gf_21_16 X hW (by decide) mw_963 dX6_views_145 ?_
            refine lv_iload hx hb dX6_views_148 (lv_at hl 4 rfl) ?_
            refine lv_iload_n hx hb dX6_views_150 rfl (lv_at hl 3 rfl) ?_
            refine lv_if_eq (tgt := 171) hx hb dX6_views_151 (by decide) (fun c37 => ?_) (fun c37 => ?_)
            · replace hf := ite_t hf c37
              exact P_171 _ _ _ _ _ _ _ _ _ hW (lv_sub hl [0, 1, 2, 3, 4] rfl) hf
            · replace hf := ite_f hf c37
              refine lv_aload_n hx hb dX6_views_154 rfl (lv_at hl 0 rfl) ?_
              refine gf_21_13 X hW (by decide) mw_960 dX6_views_155 ?_
              refine lv_iload hx hb dX6_views_158 (lv_at hl 4 rfl) ?_
              obtain ⟨b33, hf⟩ := chk_ex hf
              refine r_iald X hW 29 0 (by decide) (by decide) rfl b33 dX6_views_160 ?_
              refine lv_aload_n hx hb dX6_views_161 rfl (lv_at hl 0 rfl) ?_
              refine gf_21_16 X hW (by decide) mw_963 dX6_views_162 ?_
              refine lv_iload hx hb dX6_views_165 (lv_at hl 4 rfl) ?_
              obtain ⟨b34, hf⟩ := chk_ex hf
              refine r_iald X hW 32 0 (by decide) (by decide) rfl b34 dX6_views_167 ?_
              refine lv_icmp_ge (tgt := 181) hx hb dX6_views_168 (by decide) (fun c36 => ?_) (fun c36 => ?_)
              · replace hf := ite_t hf c36
                refine lv_aload_n hx hb dX6_views_181 rfl (lv_at hl 0 rfl) ?_
                refine gf_21_16 X hW (by decide) mw_963 dX6_views_182 ?_
                refine lv_iload hx hb dX6_views_185 (lv_at hl 4 rfl) ?_
                obtain ⟨b35, hf⟩ := chk_ex hf
                refine r_iald X hW 32 0 (by decide) (by decide) rfl b35 dX6_views_187 ?_
                exact P_188 _ _ _ _ _ _ _ _ _ _ hW (lv_sub hl [0, 1, 2, 3, 4] rfl) hf
              · replace hf := ite_f hf c36
                exact P_171 _ _ _ _ _ _ _ _ _ hW (lv_sub hl [0, 1, 2, 3, 4] rfl) hf
          have P_126 : ∀ (x1 : Int32) (x2 : Int32) (x3 : Int32) (x4 : Int32) (s1 : Int32) (mm : gM) (H : Heap) (locs : List Loc) (ls : Array Slot), Wd g mm s H locs → lv_has ls 5 [(0, .ref (ad g 21 0)), (1, .int x1), (2, .int x2), (3, .int x3), (4, .int x4)] → jX6_views_126 (lX6_views_46 n46) (lX6_views_71 (lX6_views_46 n46) n71) x1 x2 x3 x4 s1 mm = some mZ → W p l e rm_X6_views s m args below meth c H locs 0 0 (MQ below (CV g mZ) args s 0 0 (gA g)) (F0 m 126 ls [.int s1, .ref (ad g 31 0)]) := by
            intro x1 x2 x3 x4 s1 mm H locs ls hW hl hf
            unfold jX6_views_126 at hf
            refine lv_aload_n hx hb dX6_views_126 rfl (lv_at hl 0 rfl) ?_
            refine gf_21_13 X hW (by decide) mw_960 dX6_views_127 ?_
            refine lv_iload hx hb dX6_views_130 (lv_at hl 4 rfl) ?_
            obtain ⟨b30, hf⟩ := chk_ex hf
            refine r_iald X hW 29 0 (by decide) (by decide) rfl b30 dX6_views_132 ?_
            refine lv_goto (tgt := 143) hx hb dX6_views_133 (by decide) ?_
            exact P_143 _ _ _ _ _ _ _ _ _ _ hW (lv_sub hl [0, 1, 2, 3, 4] rfl) hf
          intro x1 x2 x3 x4 mm H locs ls hW hl hf
          rw [lX6_views_71_s] at hf
          refine lv_iload hx hb dX6_views_71 (lv_at hl 4 rfl) ?_
          refine lv_bipush (v := 48) hx hb dX6_views_73 (by decide) ?_
          refine lv_icmp_ge (tgt := 195) hx hb dX6_views_75 (by decide) (fun c29 => ?_) (fun c29 => ?_)
          · replace hf := ite_t hf c29
            exact P_195 _ _ _ _ _ _ hW (lv_sub hl [0, 1, 2] rfl) hf
          · replace hf := ite_f hf c29
            refine lv_iload_n hx hb dX6_views_78 rfl (lv_at hl 3 rfl) ?_
            refine lv_if_lt (tgt := 195) hx hb dX6_views_79 (by decide) (fun c28 => ?_) (fun c28 => ?_)
            · replace hf := ite_t hf c28
              exact P_195 _ _ _ _ _ _ hW (lv_sub hl [0, 1, 2] rfl) hf
            · replace hf := ite_f hf c28
              refine lv_aload_n hx hb dX6_views_82 rfl (lv_at hl 0 rfl) ?_
              refine gf_21_14 X hW (by decide) mw_961 dX6_views_83 ?_
              refine lv_iload hx hb dX6_views_86 (lv_at hl 4 rfl) ?_
              refine lv_dup2_11 hx hb dX6_views_88 rfl rfl ?_
              obtain ⟨b19, hf⟩ := chk_ex hf
              refine r_iald X hW 30 0 (by decide) (by decide) rfl b19 dX6_views_89 ?_
              refine lv_aload_n hx hb dX6_views_90 rfl (lv_at hl 0 rfl) ?_
              refine gf_21_13 X hW (by decide) mw_960 dX6_views_91 ?_
              refine lv_iload hx hb dX6_views_94 (lv_at hl 4 rfl) ?_
              obtain ⟨b20, hf⟩ := chk_ex hf
              refine r_iald X hW 29 0 (by decide) (by decide) rfl b20 dX6_views_96 ?_
              refine lv_iadd hx hb dX6_views_97 ?_
              obtain ⟨b21, hf⟩ := chk_ex hf
              obtain ⟨m22, ex, hf⟩ := wth_ex hf
              refine r_iast X hW 30 0 (by decide) (by decide) (fun _ => rfl) b21 dX6_views_98 (fun H locs hW => ?_)
              replace hW := hW.same ex
              clear ex
              refine lv_aload_n hx hb dX6_views_99 rfl (lv_at hl 0 rfl) ?_
              refine gf_21_15 X hW (by decide) mw_962 dX6_views_100 ?_
              refine lv_iload hx hb dX6_views_103 (lv_at hl 4 rfl) ?_
              refine lv_iload_n hx hb dX6_views_105 rfl (lv_at hl 3 rfl) ?_
              refine lv_if_eq (tgt := 126) hx hb dX6_views_106 (by decide) (fun c27 => ?_) (fun c27 => ?_)
              · replace hf := ite_t hf c27
                exact P_126 _ _ _ _ _ _ _ _ _ hW (lv_sub hl [0, 1, 2, 3, 4] rfl) hf
              · replace hf := ite_f hf c27
                refine lv_aload_n hx hb dX6_views_109 rfl (lv_at hl 0 rfl) ?_
                refine gf_21_13 X hW (by decide) mw_960 dX6_views_110 ?_
                refine lv_iload hx hb dX6_views_113 (lv_at hl 4 rfl) ?_
                obtain ⟨b23, hf⟩ := chk_ex hf
                refine r_iald X hW 29 0 (by decide) (by decide) rfl b23 dX6_views_115 ?_
                refine lv_aload_n hx hb dX6_views_116 rfl (lv_at hl 0 rfl) ?_
                refine gf_21_15 X hW (by decide) mw_962 dX6_views_117 ?_
                refine lv_iload hx hb dX6_views_120 (lv_at hl 4 rfl) ?_
                obtain ⟨b24, hf⟩ := chk_ex hf
                refine r_iald X hW 31 0 (by decide) (by decide) rfl b24 dX6_views_122 ?_
                refine lv_icmp_le (tgt := 136) hx hb dX6_views_123 (by decide) (fun c26 => ?_) (fun c26 => ?_)
                · replace hf := ite_t hf c26
                  refine lv_aload_n hx hb dX6_views_136 rfl (lv_at hl 0 rfl) ?_
                  refine gf_21_15 X hW (by decide) mw_962 dX6_views_137 ?_
                  refine lv_iload hx hb dX6_views_140 (lv_at hl 4 rfl) ?_
                  obtain ⟨b25, hf⟩ := chk_ex hf
                  refine r_iald X hW 31 0 (by decide) (by decide) rfl b25 dX6_views_142 ?_
                  exact P_143 _ _ _ _ _ _ _ _ _ _ hW (lv_sub hl [0, 1, 2, 3, 4] rfl) hf
                · replace hf := ite_f hf c26
                  exact P_126 _ _ _ _ _ _ _ _ _ hW (lv_sub hl [0, 1, 2, 3, 4] rfl) hf
      intro x1 x2 mm H locs ls hW hl hf
      rw [lX6_views_46_s] at hf
      refine lv_iload_n hx hb dX6_views_46 rfl (lv_at hl 2 rfl) ?_
      refine lv_bipush (v := 8) hx hb dX6_views_47 (by decide) ?_
      refine lv_iload_n hx hb dX6_views_49 rfl (lv_at hl 1 rfl) ?_
      refine lv_imul hx hb dX6_views_50 ?_
      refine lv_icmp_ge (tgt := 201) hx hb dX6_views_51 (by decide) (fun c18 => ?_) (fun c18 => ?_)
      · replace hf := ite_t hf c18
        replace hW := hW.same (someinj hf).symm
        exact e_v X hr hW dX6_views_201
      · replace hf := ite_f hf c18
        refine lv_aload_n hx hb dX6_views_54 rfl (lv_at hl 0 rfl) ?_
        refine lv_iload_n hx hb dX6_views_55 rfl (lv_at hl 2 rfl) ?_
        refine lv_iload_n hx hb dX6_views_56 rfl (lv_at hl 1 rfl) ?_
        obtain ⟨b14, hf⟩ := chk_ex hf
        refine r_irem hx hb dX6_views_57 b14 ?_
        obtain ⟨m17, e15, hf⟩ := bnd_ex hf
        refine k_v X hW (k_V (As := [.int (irm x2 x1)]) (rest := []) X hW hml hl.1 (c_X6_ticks l g hDW  _ mm _ e15) (r_recv X hW 21 0 (by decide) (by decide) rfl rfl) ⟨mw_1101, kw_X6_ticks⟩ ⟨⟨rfl, rfl⟩, ko_X6_ticks, ⟨Nat.le_of_ble_eq_true rfl, Nat.le_of_ble_eq_true rfl⟩⟩ rfl rfl (Nat.le_of_ble_eq_true rfl) dX6_views_58 ⟨Nat.le_of_ble_eq_true rfl, Nat.le_of_ble_eq_true rfl⟩) (fun H locs hW => ?_)
        refine lv_iload_n hx hb dX6_views_61 rfl (lv_at hl 2 rfl) ?_
        refine lv_bipush (v := 7) hx hb dX6_views_62 (by decide) ?_
        refine lv_iload_n hx hb dX6_views_64 rfl (lv_at hl 1 rfl) ?_
        refine lv_imul hx hb dX6_views_65 ?_
        refine lv_isub hx hb dX6_views_66 ?_
        refine lv_istore_n (lv' := [(3, .int (x2 - (7 * x1))), (0, .ref (ad g 21 0)), (1, .int x1), (2, .int x2)]) hx hb dX6_views_67 rfl hl (by decide) rfl (fun ls hl => ?_)
        refine lv_iconst (v := 0) hx hb dX6_views_68 (by decide) ?_
        refine lv_istore (lv' := [(4, .int 0), (3, .int (x2 - (7 * x1))), (0, .ref (ad g 21 0)), (1, .int x1), (2, .int x2)]) hx hb dX6_views_69 hl (by decide) rfl (fun ls hl => ?_)
        exact P_71 _ _ _ _ _ _ _ _ _ hW (lv_sub hl [2, 3, 4, 1, 0] rfl) hf
  have P_44 : ∀ (x1 : Int32) (mm : gM) (H : Heap) (locs : List Loc) (ls : Array Slot), Wd g mm s H locs → lv_has ls 5 [(0, .ref (ad g 21 0)), (1, .int x1)] → jX6_views_44 x1 mm = some mZ → W p l e rm_X6_views s m args below meth c H locs 0 0 (MQ below (CV g mZ) args s 0 0 (gA g)) (F0 m 44 ls []) := by
    intro x1 mm H locs ls hW hl hf
    unfold jX6_views_44 at hf
    refine lv_iconst (v := 0) hx hb dX6_views_44 (by decide) ?_
    refine lv_istore_n (lv' := [(2, .int 0), (0, .ref (ad g 21 0)), (1, .int x1)]) hx hb dX6_views_45 rfl hl (by decide) rfl (fun ls hl => ?_)
    exact P_46 _ _ _ _ _ _ _ hW (lv_sub hl [1, 2, 0] rfl) hf
  have P_11 : ∀ (n11 : Nat) (x1 : Int32) (x2 : Int32) (mm : gM) (H : Heap) (locs : List Loc) (ls : Array Slot), Wd g mm s H locs → lv_has ls 5 [(0, .ref (ad g 21 0)), (1, .int x1), (2, .int x2)] → lX6_views_11 n11 x1 x2 mm = some mZ → W p l e rm_X6_views s m args below meth c H locs 0 0 (MQ below (CV g mZ) args s 0 0 (gA g)) (F0 m 11 ls []) := by
    intro n11
    induction n11 with
    | zero => intro x1 x2 mm H locs ls hW hl hf; exact (no_some hf).elim
    | succ n11 ih_11 =>
      intro x1 x2 mm H locs ls hW hl hf
      rw [lX6_views_11_s] at hf
      refine lv_iload_n hx hb dX6_views_11 rfl (lv_at hl 2 rfl) ?_
      refine lv_bipush (v := 48) hx hb dX6_views_12 (by decide) ?_
      refine lv_icmp_ge (tgt := 44) hx hb dX6_views_14 (by decide) (fun c13 => ?_) (fun c13 => ?_)
      · replace hf := ite_t hf c13
        exact P_44 _ _ _ _ _ hW (lv_sub hl [0, 1] rfl) hf
      · replace hf := ite_f hf c13
        refine lv_aload_n hx hb dX6_views_17 rfl (lv_at hl 0 rfl) ?_
        refine gf_21_14 X hW (by decide) mw_961 dX6_views_18 ?_
        refine lv_iload_n hx hb dX6_views_21 rfl (lv_at hl 2 rfl) ?_
        refine lv_iconst (v := 0) hx hb dX6_views_22 (by decide) ?_
        obtain ⟨b7, hf⟩ := chk_ex hf
        obtain ⟨m8, ex, hf⟩ := wth_ex hf
        refine r_iast X hW 30 0 (by decide) (by decide) (fun _ => rfl) b7 dX6_views_23 (fun H locs hW => ?_)
        replace hW := hW.same ex
        clear ex
        refine lv_aload_n hx hb dX6_views_24 rfl (lv_at hl 0 rfl) ?_
        refine gf_21_15 X hW (by decide) mw_962 dX6_views_25 ?_
        refine lv_iload_n hx hb dX6_views_28 rfl (lv_at hl 2 rfl) ?_
        refine lv_iconst (v := 0) hx hb dX6_views_29 (by decide) ?_
        obtain ⟨b9, hf⟩ := chk_ex hf
        obtain ⟨m10, ex, hf⟩ := wth_ex hf
        refine r_iast X hW 31 0 (by decide) (by decide) (fun _ => rfl) b9 dX6_views_30 (fun H locs hW => ?_)
        replace hW := hW.same ex
        clear ex
        refine lv_aload_n hx hb dX6_views_31 rfl (lv_at hl 0 rfl) ?_
        refine gf_21_16 X hW (by decide) mw_963 dX6_views_32 ?_
        refine lv_iload_n hx hb dX6_views_35 rfl (lv_at hl 2 rfl) ?_
        refine lv_iconst (v := 0) hx hb dX6_views_36 (by decide) ?_
        obtain ⟨b11, hf⟩ := chk_ex hf
        obtain ⟨m12, ex, hf⟩ := wth_ex hf
        refine r_iast X hW 32 0 (by decide) (by decide) (fun _ => rfl) b11 dX6_views_37 (fun H locs hW => ?_)
        replace hW := hW.same ex
        clear ex
        refine lv_iinc (v := x2 + 1) (lv' := [(2, .int (x2 + 1)), (0, .ref (ad g 21 0)), (1, .int x1)]) hx hb dX6_views_38 hl (k := 2) rfl rfl (by decide) rfl (fun ls hl => ?_)
        refine lv_goto (tgt := 11) hx hb dX6_views_41 (by decide) ?_
        exact ih_11 _ _ _ _ _ _ hW (lv_sub hl [1, 2, 0] rfl) hf
  unfold fX6_views at hf
  refine lv_aload_n hx hb dX6_views_0 rfl (lv_at hl 0 rfl) ?_
  obtain ⟨r2, e1, hf⟩ := bnd_ex hf
  refine k_i X hW (k_V (As := []) (rest := []) X hW hml hl.1 (c_X6_roundTicks l g hDW   mm _ e1) (r_recv X hW 21 0 (by decide) (by decide) rfl rfl) ⟨mw_1088, kw_X6_roundTicks⟩ ⟨⟨rfl, rfl⟩, ko_X6_roundTicks, ⟨Nat.le_of_ble_eq_true rfl, Nat.le_of_ble_eq_true rfl⟩⟩ rfl rfl (Nat.le_of_ble_eq_true rfl) dX6_views_1 ⟨Nat.le_of_ble_eq_true rfl, Nat.le_of_ble_eq_true rfl⟩) (fun H locs hW => ?_)
  refine lv_istore_n (lv' := [(1, .int r2), (0, .ref (ad g 21 0))]) hx hb dX6_views_4 rfl hl (by decide) rfl (fun ls hl => ?_)
  refine lv_aload_n hx hb dX6_views_5 rfl (lv_at hl 1 rfl) ?_
  obtain ⟨m6, e4, hf⟩ := bnd_ex hf
  refine k_v X hW (k_V (As := []) (rest := []) X hW hml hl.1 (c_X6_copiesGlows l g hDW   mm _ e4) (r_recv X hW 21 0 (by decide) (by decide) rfl rfl) ⟨mw_1097, kw_X6_copiesGlows⟩ ⟨⟨rfl, rfl⟩, ko_X6_copiesGlows, ⟨Nat.le_of_ble_eq_true rfl, Nat.le_of_ble_eq_true rfl⟩⟩ rfl rfl (Nat.le_of_ble_eq_true rfl) dX6_views_6 ⟨Nat.le_of_ble_eq_true rfl, Nat.le_of_ble_eq_true rfl⟩) (fun H locs hW => ?_)
  refine lv_iconst (v := 0) hx hb dX6_views_9 (by decide) ?_
  refine lv_istore_n (lv' := [(2, .int 0), (1, .int r2), (0, .ref (ad g 21 0))]) hx hb dX6_views_10 rfl hl (by decide) rfl (fun ls hl => ?_)
  exact P_11 _ _ _ _ _ _ _ hW (lv_sub hl [2, 1, 0] rfl) hf
set_option maxRecDepth 100000 in
set_option maxHeartbeats 4000000 in
theorem c_X6_brightness (l : Launch) (g : gG) (hDW : DW g) (x1 : Int32) (x2 : Int32) (mm : gM) (r0 : Int32) (hf : fX6_brightness x1 x2 mm = some r0) : Met l yX6_brightness (Cond.code yX6_brightness cX6_brightness 4 (some .int) :: ALLW) rm_X6_brightness (CPre g mm [.ref (ad g 21 0), .int x1, .int x2]) (CI g mm r0) 0 0 (gA g) := by
  refine Met.ofW (cc := cX6_brightness) (maxL := 4) (ret := (some .int)) (by decide) rfl ?_
  intro p e s m args below meth c s₁ B hml hv
  obtain ⟨ha, hFx, hP0, hlo⟩ := hv
  have X : Cx g p s m args c meth RX6 cX6_brightness := Cx_of hDW hFx hlo B
  have hx := X.1
  have hb := X.2.1
  have hr := B.returns
  have hlocks := X.2.2.2.2.2.2.2
  have hW : Wd g mm s s.heap [] := ⟨hP0, va_S.rf⟩
  rw [ha, lg_entry_eq]
  have hl := lv_entry ([.ref (ad g 21 0), .int x1, .int x2] : List Value) (n := 4) (Nat.le_of_ble_eq_true rfl)
  generalize (lg_sl ([.ref (ad g 21 0), .int x1, .int x2] : List Value) ++ List.replicate (4 - (lg_sl ([.ref (ad g 21 0), .int x1, .int x2] : List Value)).length) Slot.unset).toArray = ls at hl ⊢
  have hl : lv_has ls 4 [(0, .ref (ad g 21 0)), (1, .int x1), (2, .int x2)] := hl
  rw [← ha]
  show W p l e rm_X6_brightness s m args below meth c s.heap [] 0 0 (MQ below (CI g mm r0) args s 0 0 (gA g)) (F0 m 0 ls [])
  unfold fX6_brightness at hf
  refine lv_aload_n hx hb dX6_brightness_0 rfl (lv_at hl 0 rfl) ?_
  obtain ⟨r2, e1, hf⟩ := bnd_ex hf
  refine k_i X hW (k_V (As := []) (rest := []) X hW hml hl.1 (c_X6_roundTicks l g hDW   mm _ e1) (r_recv X hW 21 0 (by decide) (by decide) rfl rfl) ⟨mw_1088, kw_X6_roundTicks⟩ ⟨⟨rfl, rfl⟩, ko_X6_roundTicks, ⟨Nat.le_of_ble_eq_true rfl, Nat.le_of_ble_eq_true rfl⟩⟩ rfl rfl (Nat.le_of_ble_eq_true rfl) dX6_brightness_1 ⟨Nat.le_of_ble_eq_true rfl, Nat.le_of_ble_eq_true rfl⟩) (fun H locs hW => ?_)
  refine lv_istore_n (lv' := [(3, .int r2), (0, .ref (ad g 21 0)), (1, .int x1), (2, .int x2)]) hx hb dX6_brightness_4 rfl hl (by decide) rfl (fun ls hl => ?_)
  refine lv_iload_n hx hb dX6_brightness_5 rfl (lv_at hl 0 rfl) ?_
  refine lv_if_ne (tgt := 13) hx hb dX6_brightness_6 (by decide) (fun c6 => ?_) (fun c6 => ?_)
  · replace hf := ite_f hf c6
    refine lv_aload_n hx hb dX6_brightness_13 rfl (lv_at hl 1 rfl) ?_
    refine gf_21_14 X hW (by decide) mw_961 dX6_brightness_14 ?_
    refine lv_bipush (v := 8) hx hb dX6_brightness_17 (by decide) ?_
    refine lv_iload_n hx hb dX6_brightness_19 rfl (lv_at hl 2 rfl) ?_
    refine lv_imul hx hb dX6_brightness_20 ?_
    refine lv_iload_n hx hb dX6_brightness_21 rfl (lv_at hl 3 rfl) ?_
    refine lv_iadd hx hb dX6_brightness_22 ?_
    obtain ⟨b4, hf⟩ := chk_ex hf
    refine r_iald X hW 30 0 (by decide) (by decide) rfl b4 dX6_brightness_23 ?_
    refine lv_iload_n hx hb dX6_brightness_24 rfl (lv_at hl 0 rfl) ?_
    obtain ⟨b5, hf⟩ := chk_ex hf
    refine lv_idiv hx hb dX6_brightness_25 b5 ?_
    exact e_i X hr hW (someinj hf) dX6_brightness_26
  · replace hf := ite_t hf c6
    refine lv_iconst (v := 0) hx hb dX6_brightness_9 (by decide) ?_
    refine lv_goto (tgt := 26) hx hb dX6_brightness_10 (by decide) ?_
    exact e_i X hr hW (someinj hf) dX6_brightness_26
set_option maxRecDepth 100000 in
set_option maxHeartbeats 4000000 in
theorem c_X6_seenOf (l : Launch) (g : gG) (hDW : DW g) (x1 : Int32) (mm : gM) (r0 : Int32) (hf : fX6_seenOf x1 mm = some r0) : Met l yX6_seenOf (Cond.code yX6_seenOf cX6_seenOf 4 (some .int) :: ALLW) rm_X6_seenOf (CPre g mm [.ref (ad g 21 0), .int x1]) (CI g mm r0) 0 0 (gA g) := by
  refine Met.ofW (cc := cX6_seenOf) (maxL := 4) (ret := (some .int)) (by decide) rfl ?_
  intro p e s m args below meth c s₁ B hml hv
  obtain ⟨ha, hFx, hP0, hlo⟩ := hv
  have X : Cx g p s m args c meth RX6 cX6_seenOf := Cx_of hDW hFx hlo B
  have hx := X.1
  have hb := X.2.1
  have hr := B.returns
  have hlocks := X.2.2.2.2.2.2.2
  have hW : Wd g mm s s.heap [] := ⟨hP0, va_S.rf⟩
  rw [ha, lg_entry_eq]
  have hl := lv_entry ([.ref (ad g 21 0), .int x1] : List Value) (n := 4) (Nat.le_of_ble_eq_true rfl)
  generalize (lg_sl ([.ref (ad g 21 0), .int x1] : List Value) ++ List.replicate (4 - (lg_sl ([.ref (ad g 21 0), .int x1] : List Value)).length) Slot.unset).toArray = ls at hl ⊢
  have hl : lv_has ls 4 [(0, .ref (ad g 21 0)), (1, .int x1)] := hl
  rw [← ha]
  show W p l e rm_X6_seenOf s m args below meth c s.heap [] 0 0 (MQ below (CI g mm r0) args s 0 0 (gA g)) (F0 m 0 ls [])
  have P_4 : ∀ (n4 : Nat) (x1 : Int32) (x2 : Int32) (x3 : Int32) (H : Heap) (locs : List Loc) (ls : Array Slot), Wd g mm s H locs → lv_has ls 4 [(0, .ref (ad g 21 0)), (1, .int x1), (2, .int x2), (3, .int x3)] → lX6_seenOf_4 mm n4 x1 x2 x3 = some r0 → W p l e rm_X6_seenOf s m args below meth c H locs 0 0 (MQ below (CI g mm r0) args s 0 0 (gA g)) (F0 m 4 ls []) := by
    intro n4
    induction n4 with
    | zero => intro x1 x2 x3 H locs ls hW hl hf; exact (no_some hf).elim
    | succ n4 ih_4 =>
      have P_33 : ∀ (x1 : Int32) (x3 : Int32) (s0 : Int32) (s1 : Int32) (H : Heap) (locs : List Loc) (ls : Array Slot), Wd g mm s H locs → lv_has ls 4 [(0, .ref (ad g 21 0)), (1, .int x1), (3, .int x3)] → jX6_seenOf_33 (lX6_seenOf_4 mm n4) mm x1 x3 s0 s1 = some r0 → W p l e rm_X6_seenOf s m args below meth c H locs 0 0 (MQ below (CI g mm r0) args s 0 0 (gA g)) (F0 m 33 ls [.int s1, .int s0]) := by
        intro x1 x3 s0 s1 H locs ls hW hl hf
        unfold jX6_seenOf_33 at hf
        refine lv_ior hx hb dX6_seenOf_33 ?_
        refine lv_istore_n (lv' := [(2, .int (s0 ||| s1)), (0, .ref (ad g 21 0)), (1, .int x1), (3, .int x3)]) hx hb dX6_seenOf_34 rfl hl (by decide) rfl (fun ls hl => ?_)
        refine lv_iinc (v := x3 + 1) (lv' := [(3, .int (x3 + 1)), (2, .int (s0 ||| s1)), (0, .ref (ad g 21 0)), (1, .int x1)]) hx hb dX6_seenOf_35 hl (k := 3) rfl rfl (by decide) rfl (fun ls hl => ?_)
        refine lv_goto (tgt := 4) hx hb dX6_seenOf_38 (by decide) ?_
        exact ih_4 _ _ _ _ _ _ hW (lv_sub hl [2, 3, 1, 0] rfl) hf
      intro x1 x2 x3 H locs ls hW hl hf
      rw [lX6_seenOf_4_s] at hf
      refine lv_iload_n hx hb dX6_seenOf_4 rfl (lv_at hl 3 rfl) ?_
      refine lv_bipush (v := 8) hx hb dX6_seenOf_5 (by decide) ?_
      refine lv_icmp_ge (tgt := 41) hx hb dX6_seenOf_7 (by decide) (fun c6 => ?_) (fun c6 => ?_)
      · replace hf := ite_t hf c6
        refine lv_iload_n hx hb dX6_seenOf_41 rfl (lv_at hl 2 rfl) ?_
        exact e_i X hr hW (someinj hf) dX6_seenOf_42
      · replace hf := ite_f hf c6
        refine lv_iload_n hx hb dX6_seenOf_10 rfl (lv_at hl 2 rfl) ?_
        refine lv_aload_n hx hb dX6_seenOf_11 rfl (lv_at hl 0 rfl) ?_
        refine lv_iload_n hx hb dX6_seenOf_12 rfl (lv_at hl 1 rfl) ?_
        refine lv_iload_n hx hb dX6_seenOf_13 rfl (lv_at hl 3 rfl) ?_
        obtain ⟨r2, e1, hf⟩ := bnd_ex hf
        refine k_i X hW (k_V (As := [.int x1, .int x3]) (rest := [.int x2]) X hW hml hl.1 (c_X6_brightness l g hDW  _ _ mm _ e1) (r_recv X hW 21 0 (by decide) (by decide) rfl rfl) ⟨mw_1172, kw_X6_brightness⟩ ⟨⟨rfl, rfl⟩, ko_X6_brightness, ⟨Nat.le_of_ble_eq_true rfl, Nat.le_of_ble_eq_true rfl⟩⟩ rfl rfl (Nat.le_of_ble_eq_true rfl) dX6_seenOf_14 ⟨Nat.le_of_ble_eq_true rfl, Nat.le_of_ble_eq_true rfl⟩) (fun H locs hW => ?_)
        refine lv_aload_n hx hb dX6_seenOf_17 rfl (lv_at hl 0 rfl) ?_
        refine gf_21_1 X hW (by decide) mw_948 dX6_seenOf_18 ?_
        refine lv_iconst (v := 3) hx hb dX6_seenOf_21 (by decide) ?_
        obtain ⟨b4, hf⟩ := chk_ex hf
        refine r_iald X hW 22 0 (by decide) (by decide) rfl b4 dX6_seenOf_22 ?_
        refine lv_icmp_lt (tgt := 32) hx hb dX6_seenOf_23 (by decide) (fun c5 => ?_) (fun c5 => ?_)
        · replace hf := ite_t hf c5
          refine lv_iconst (v := 0) hx hb dX6_seenOf_32 (by decide) ?_
          exact P_33 _ _ _ _ _ _ _ hW (lv_sub hl [0, 1, 3] rfl) hf
        · replace hf := ite_f hf c5
          refine lv_iconst (v := 1) hx hb dX6_seenOf_26 (by decide) ?_
          refine lv_iload_n hx hb dX6_seenOf_27 rfl (lv_at hl 3 rfl) ?_
          refine lv_ishl hx hb dX6_seenOf_28 ?_
          refine lv_goto (tgt := 33) hx hb dX6_seenOf_29 (by decide) ?_
          exact P_33 _ _ _ _ _ _ _ hW (lv_sub hl [0, 1, 3] rfl) hf
  unfold fX6_seenOf at hf
  refine lv_iconst (v := 0) hx hb dX6_seenOf_0 (by decide) ?_
  refine lv_istore_n (lv' := [(2, .int 0), (0, .ref (ad g 21 0)), (1, .int x1)]) hx hb dX6_seenOf_1 rfl hl (by decide) rfl (fun ls hl => ?_)
  refine lv_iconst (v := 0) hx hb dX6_seenOf_2 (by decide) ?_
  refine lv_istore_n (lv' := [(3, .int 0), (2, .int 0), (0, .ref (ad g 21 0)), (1, .int x1)]) hx hb dX6_seenOf_3 rfl hl (by decide) rfl (fun ls hl => ?_)
  exact P_4 _ _ _ _ _ _ _ hW (lv_sub hl [2, 3, 1, 0] rfl) hf
set_option maxRecDepth 100000 in
set_option maxHeartbeats 4000000 in
theorem c_X6_readOf (l : Launch) (g : gG) (hDW : DW g) (x1 : Int32) (mm : gM) (r0 : Int32) (hf : fX6_readOf x1 mm = some r0) : Met l yX6_readOf (Cond.code yX6_readOf cX6_readOf 4 (some .int) :: ALLW) rm_X6_readOf (CPre g mm [.ref (ad g 21 0), .int x1]) (CI g mm r0) 0 0 (gA g) := by
  refine Met.ofW (cc := cX6_readOf) (maxL := 4) (ret := (some .int)) (by decide) rfl ?_
  intro p e s m args below meth c s₁ B hml hv
  obtain ⟨ha, hFx, hP0, hlo⟩ := hv
  have X : Cx g p s m args c meth RX6 cX6_readOf := Cx_of hDW hFx hlo B
  have hx := X.1
  have hb := X.2.1
  have hr := B.returns
  have hlocks := X.2.2.2.2.2.2.2
  have hW : Wd g mm s s.heap [] := ⟨hP0, va_S.rf⟩
  rw [ha, lg_entry_eq]
  have hl := lv_entry ([.ref (ad g 21 0), .int x1] : List Value) (n := 4) (Nat.le_of_ble_eq_true rfl)
  generalize (lg_sl ([.ref (ad g 21 0), .int x1] : List Value) ++ List.replicate (4 - (lg_sl ([.ref (ad g 21 0), .int x1] : List Value)).length) Slot.unset).toArray = ls at hl ⊢
  have hl : lv_has ls 4 [(0, .ref (ad g 21 0)), (1, .int x1)] := hl
  rw [← ha]
  show W p l e rm_X6_readOf s m args below meth c s.heap [] 0 0 (MQ below (CI g mm r0) args s 0 0 (gA g)) (F0 m 0 ls [])
  have P_11 : ∀ (n11 : Nat) (x2 : Int32) (x3 : Int32) (H : Heap) (locs : List Loc) (ls : Array Slot), Wd g mm s H locs → lv_has ls 4 [(2, .int x2), (3, .int x3)] → lX6_readOf_11 mm n11 x2 x3 = some r0 → W p l e rm_X6_readOf s m args below meth c H locs 0 0 (MQ below (CI g mm r0) args s 0 0 (gA g)) (F0 m 11 ls []) := by
    intro n11
    induction n11 with
    | zero => intro x2 x3 H locs ls hW hl hf; exact (no_some hf).elim
    | succ n11 ih_11 =>
      intro x2 x3 H locs ls hW hl hf
      rw [lX6_readOf_11_s] at hf
      refine lv_iload_n hx hb dX6_readOf_11 rfl (lv_at hl 1 rfl) ?_
      refine lv_bipush (v := 18) hx hb dX6_readOf_12 (by decide) ?_
      refine lv_icmp_ge (tgt := 33) hx hb dX6_readOf_14 (by decide) (fun c8 => ?_) (fun c8 => ?_)
      · replace hf := ite_t hf c8
        refine lv_iconst (v := -1) hx hb dX6_readOf_33 (by decide) ?_
        exact e_i X hr hW (someinj hf) dX6_readOf_34
      · replace hf := ite_f hf c8
        refine lv_iload_n hx hb dX6_readOf_17 rfl (lv_at hl 1 rfl) ?_
        obtain ⟨r5, e4, hf⟩ := bnd_ex hf
        refine k_i X hW (k_S (As := [.int x3]) (rest := []) X hW hml hl.1 (c_X6_segmentsOf l g hDW  _ mm _ e4) ⟨mw_1062, kw_X6_segmentsOf⟩ ⟨⟨rfl, rfl⟩, ko_X6_segmentsOf, ⟨Nat.le_of_ble_eq_true rfl, Nat.le_of_ble_eq_true rfl⟩⟩ rfl rfl (Nat.le_of_ble_eq_true rfl) dX6_readOf_18 ⟨Nat.le_of_ble_eq_true rfl, Nat.le_of_ble_eq_true rfl⟩) (fun H locs hW => ?_)
        refine lv_iload_n hx hb dX6_readOf_21 rfl (lv_at hl 0 rfl) ?_
        refine lv_icmp_ne (tgt := 27) hx hb dX6_readOf_22 (by decide) (fun c7 => ?_) (fun c7 => ?_)
        · replace hf := ite_f hf c7
          refine lv_iinc (v := x3 + 1) (lv' := [(3, .int (x3 + 1)), (2, .int x2)]) hx hb dX6_readOf_27 hl (k := 1) rfl rfl (by decide) rfl (fun ls hl => ?_)
          refine lv_goto (tgt := 11) hx hb dX6_readOf_30 (by decide) ?_
          exact ih_11 _ _ _ _ _ hW (lv_sub hl [1, 0] rfl) hf
        · replace hf := ite_t hf c7
          refine lv_iload_n hx hb dX6_readOf_25 rfl (lv_at hl 1 rfl) ?_
          exact e_i X hr hW (someinj hf) dX6_readOf_26
  unfold fX6_readOf at hf
  refine lv_aload_n hx hb dX6_readOf_0 rfl (lv_at hl 0 rfl) ?_
  refine lv_iload_n hx hb dX6_readOf_1 rfl (lv_at hl 1 rfl) ?_
  obtain ⟨r2, e1, hf⟩ := bnd_ex hf
  refine k_i X hW (k_V (As := [.int x1]) (rest := []) X hW hml hl.1 (c_X6_seenOf l g hDW  _ mm _ e1) (r_recv X hW 21 0 (by decide) (by decide) rfl rfl) ⟨mw_1168, kw_X6_seenOf⟩ ⟨⟨rfl, rfl⟩, ko_X6_seenOf, ⟨Nat.le_of_ble_eq_true rfl, Nat.le_of_ble_eq_true rfl⟩⟩ rfl rfl (Nat.le_of_ble_eq_true rfl) dX6_readOf_2 ⟨Nat.le_of_ble_eq_true rfl, Nat.le_of_ble_eq_true rfl⟩) (fun H locs hW => ?_)
  refine lv_bipush (v := 127) hx hb dX6_readOf_5 (by decide) ?_
  refine lv_iand hx hb dX6_readOf_7 ?_
  refine lv_istore_n (lv' := [(2, .int (r2 &&& 127)), (0, .ref (ad g 21 0)), (1, .int x1)]) hx hb dX6_readOf_8 rfl hl (by decide) rfl (fun ls hl => ?_)
  refine lv_iconst (v := 0) hx hb dX6_readOf_9 (by decide) ?_
  refine lv_istore_n (lv' := [(3, .int 0), (2, .int (r2 &&& 127)), (0, .ref (ad g 21 0)), (1, .int x1)]) hx hb dX6_readOf_10 rfl hl (by decide) rfl (fun ls hl => ?_)
  exact P_11 _ _ _ _ _ _ hW (lv_sub hl [1, 0] rfl) hf
set_option maxRecDepth 100000 in
set_option maxHeartbeats 4000000 in
theorem c_X6_meanOf (l : Launch) (g : gG) (hDW : DW g) (x1 : Int32) (mm : gM) (r0 : Int32) (hf : fX6_meanOf x1 mm = some r0) : Met l yX6_meanOf (Cond.code yX6_meanOf cX6_meanOf 5 (some .int) :: ALLW) rm_X6_meanOf (CPre g mm [.ref (ad g 21 0), .int x1]) (CI g mm r0) 0 0 (gA g) := by
  refine Met.ofW (cc := cX6_meanOf) (maxL := 5) (ret := (some .int)) (by decide) rfl ?_
  intro p e s m args below meth c s₁ B hml hv
  obtain ⟨ha, hFx, hP0, hlo⟩ := hv
  have X : Cx g p s m args c meth RX6 cX6_meanOf := Cx_of hDW hFx hlo B
  have hx := X.1
  have hb := X.2.1
  have hr := B.returns
  have hlocks := X.2.2.2.2.2.2.2
  have hW : Wd g mm s s.heap [] := ⟨hP0, va_S.rf⟩
  rw [ha, lg_entry_eq]
  have hl := lv_entry ([.ref (ad g 21 0), .int x1] : List Value) (n := 5) (Nat.le_of_ble_eq_true rfl)
  generalize (lg_sl ([.ref (ad g 21 0), .int x1] : List Value) ++ List.replicate (5 - (lg_sl ([.ref (ad g 21 0), .int x1] : List Value)).length) Slot.unset).toArray = ls at hl ⊢
  have hl : lv_has ls 5 [(0, .ref (ad g 21 0)), (1, .int x1)] := hl
  rw [← ha]
  show W p l e rm_X6_meanOf s m args below meth c s.heap [] 0 0 (MQ below (CI g mm r0) args s 0 0 (gA g)) (F0 m 0 ls [])
  have P_48 : ∀ (x2 : Int32) (x3 : Int32) (H : Heap) (locs : List Loc) (ls : Array Slot), Wd g mm s H locs → lv_has ls 5 [(2, .int x2), (3, .int x3)] → jX6_meanOf_48 mm x2 x3 = some r0 → W p l e rm_X6_meanOf s m args below meth c H locs 0 0 (MQ below (CI g mm r0) args s 0 0 (gA g)) (F0 m 48 ls []) := by
    intro x2 x3 H locs ls hW hl hf
    unfold jX6_meanOf_48 at hf
    refine lv_iload_n hx hb dX6_meanOf_48 rfl (lv_at hl 0 rfl) ?_
    refine lv_if_ne (tgt := 56) hx hb dX6_meanOf_49 (by decide) (fun c13 => ?_) (fun c13 => ?_)
    · replace hf := ite_f hf c13
      refine lv_iload_n hx hb dX6_meanOf_56 rfl (lv_at hl 1 rfl) ?_
      refine lv_iload_n hx hb dX6_meanOf_57 rfl (lv_at hl 0 rfl) ?_
      obtain ⟨r10, e9, hf⟩ := bnd_ex hf
      refine k_i X hW (k_S (As := [.int x2]) (rest := [.int x3]) X hW hml hl.1 (c_X6_ones l g hDW  _ mm _ e9) ⟨mw_1077, kw_X6_ones⟩ ⟨⟨rfl, rfl⟩, ko_X6_ones, ⟨Nat.le_of_ble_eq_true rfl, Nat.le_of_ble_eq_true rfl⟩⟩ rfl rfl (Nat.le_of_ble_eq_true rfl) dX6_meanOf_58 ⟨Nat.le_of_ble_eq_true rfl, Nat.le_of_ble_eq_true rfl⟩) (fun H locs hW => ?_)
      obtain ⟨b12, hf⟩ := chk_ex hf
      refine lv_idiv hx hb dX6_meanOf_61 b12 ?_
      exact e_i X hr hW (someinj hf) dX6_meanOf_62
    · replace hf := ite_t hf c13
      refine lv_iconst (v := 0) hx hb dX6_meanOf_52 (by decide) ?_
      refine lv_goto (tgt := 62) hx hb dX6_meanOf_53 (by decide) ?_
      exact e_i X hr hW (someinj hf) dX6_meanOf_62
  have P_11 : ∀ (n11 : Nat) (x1 : Int32) (x2 : Int32) (x3 : Int32) (x4 : Int32) (H : Heap) (locs : List Loc) (ls : Array Slot), Wd g mm s H locs → lv_has ls 5 [(0, .ref (ad g 21 0)), (1, .int x1), (2, .int x2), (3, .int x3), (4, .int x4)] → lX6_meanOf_11 mm n11 x1 x2 x3 x4 = some r0 → W p l e rm_X6_meanOf s m args below meth c H locs 0 0 (MQ below (CI g mm r0) args s 0 0 (gA g)) (F0 m 11 ls []) := by
    intro n11
    induction n11 with
    | zero => intro x1 x2 x3 x4 H locs ls hW hl hf; exact (no_some hf).elim
    | succ n11 ih_11 =>
      have P_40 : ∀ (x1 : Int32) (x2 : Int32) (x4 : Int32) (s0 : Int32) (s1 : Int32) (H : Heap) (locs : List Loc) (ls : Array Slot), Wd g mm s H locs → lv_has ls 5 [(0, .ref (ad g 21 0)), (1, .int x1), (2, .int x2), (4, .int x4)] → jX6_meanOf_40 (lX6_meanOf_11 mm n11) mm x1 x2 x4 s0 s1 = some r0 → W p l e rm_X6_meanOf s m args below meth c H locs 0 0 (MQ below (CI g mm r0) args s 0 0 (gA g)) (F0 m 40 ls [.int s1, .int s0]) := by
        intro x1 x2 x4 s0 s1 H locs ls hW hl hf
        unfold jX6_meanOf_40 at hf
        refine lv_iadd hx hb dX6_meanOf_40 ?_
        refine lv_istore_n (lv' := [(3, .int (s0 + s1)), (0, .ref (ad g 21 0)), (1, .int x1), (2, .int x2), (4, .int x4)]) hx hb dX6_meanOf_41 rfl hl (by decide) rfl (fun ls hl => ?_)
        refine lv_iinc (v := x4 + 1) (lv' := [(4, .int (x4 + 1)), (3, .int (s0 + s1)), (0, .ref (ad g 21 0)), (1, .int x1), (2, .int x2)]) hx hb dX6_meanOf_42 hl (k := 4) rfl rfl (by decide) rfl (fun ls hl => ?_)
        refine lv_goto (tgt := 11) hx hb dX6_meanOf_45 (by decide) ?_
        exact ih_11 _ _ _ _ _ _ _ hW (lv_sub hl [2, 3, 4, 1, 0] rfl) hf
      intro x1 x2 x3 x4 H locs ls hW hl hf
      rw [lX6_meanOf_11_s] at hf
      refine lv_iload hx hb dX6_meanOf_11 (lv_at hl 4 rfl) ?_
      refine lv_bipush (v := 8) hx hb dX6_meanOf_13 (by decide) ?_
      refine lv_icmp_ge (tgt := 48) hx hb dX6_meanOf_15 (by decide) (fun c8 => ?_) (fun c8 => ?_)
      · replace hf := ite_t hf c8
        exact P_48 _ _ _ _ _ hW (lv_sub hl [2, 3] rfl) hf
      · replace hf := ite_f hf c8
        refine lv_iload_n hx hb dX6_meanOf_18 rfl (lv_at hl 3 rfl) ?_
        refine lv_iload_n hx hb dX6_meanOf_19 rfl (lv_at hl 2 rfl) ?_
        refine lv_iload hx hb dX6_meanOf_20 (lv_at hl 4 rfl) ?_
        refine lv_ishr hx hb dX6_meanOf_22 ?_
        refine lv_iconst (v := 1) hx hb dX6_meanOf_23 (by decide) ?_
        refine lv_iand hx hb dX6_meanOf_24 ?_
        refine lv_iconst (v := 1) hx hb dX6_meanOf_25 (by decide) ?_
        refine lv_icmp_ne (tgt := 39) hx hb dX6_meanOf_26 (by decide) (fun c7 => ?_) (fun c7 => ?_)
        · replace hf := ite_f hf c7
          refine lv_iconst (v := 0) hx hb dX6_meanOf_39 (by decide) ?_
          exact P_40 _ _ _ _ _ _ _ _ hW (lv_sub hl [0, 1, 2, 4] rfl) hf
        · replace hf := ite_t hf c7
          refine lv_aload_n hx hb dX6_meanOf_29 rfl (lv_at hl 0 rfl) ?_
          refine lv_iload_n hx hb dX6_meanOf_30 rfl (lv_at hl 1 rfl) ?_
          refine lv_iload hx hb dX6_meanOf_31 (lv_at hl 4 rfl) ?_
          obtain ⟨r5, e4, hf⟩ := bnd_ex hf
          refine k_i X hW (k_V (As := [.int x1, .int x4]) (rest := [.int x3]) X hW hml hl.1 (c_X6_brightness l g hDW  _ _ mm _ e4) (r_recv X hW 21 0 (by decide) (by decide) rfl rfl) ⟨mw_1172, kw_X6_brightness⟩ ⟨⟨rfl, rfl⟩, ko_X6_brightness, ⟨Nat.le_of_ble_eq_true rfl, Nat.le_of_ble_eq_true rfl⟩⟩ rfl rfl (Nat.le_of_ble_eq_true rfl) dX6_meanOf_33 ⟨Nat.le_of_ble_eq_true rfl, Nat.le_of_ble_eq_true rfl⟩) (fun H locs hW => ?_)
          refine lv_goto (tgt := 40) hx hb dX6_meanOf_36 (by decide) ?_
          exact P_40 _ _ _ _ _ _ _ _ hW (lv_sub hl [0, 1, 2, 4] rfl) hf
  unfold fX6_meanOf at hf
  refine lv_aload_n hx hb dX6_meanOf_0 rfl (lv_at hl 0 rfl) ?_
  refine lv_iload_n hx hb dX6_meanOf_1 rfl (lv_at hl 1 rfl) ?_
  obtain ⟨r2, e1, hf⟩ := bnd_ex hf
  refine k_i X hW (k_V (As := [.int x1]) (rest := []) X hW hml hl.1 (c_X6_works l g hDW  _ mm _ e1) (r_recv X hW 21 0 (by decide) (by decide) rfl rfl) ⟨mw_1058, kw_X6_works⟩ ⟨⟨rfl, rfl⟩, ko_X6_works, ⟨Nat.le_of_ble_eq_true rfl, Nat.le_of_ble_eq_true rfl⟩⟩ rfl rfl (Nat.le_of_ble_eq_true rfl) dX6_meanOf_2 ⟨Nat.le_of_ble_eq_true rfl, Nat.le_of_ble_eq_true rfl⟩) (fun H locs hW => ?_)
  refine lv_istore_n (lv' := [(2, .int r2), (0, .ref (ad g 21 0)), (1, .int x1)]) hx hb dX6_meanOf_5 rfl hl (by decide) rfl (fun ls hl => ?_)
  refine lv_iconst (v := 0) hx hb dX6_meanOf_6 (by decide) ?_
  refine lv_istore_n (lv' := [(3, .int 0), (2, .int r2), (0, .ref (ad g 21 0)), (1, .int x1)]) hx hb dX6_meanOf_7 rfl hl (by decide) rfl (fun ls hl => ?_)
  refine lv_iconst (v := 0) hx hb dX6_meanOf_8 (by decide) ?_
  refine lv_istore (lv' := [(4, .int 0), (3, .int 0), (2, .int r2), (0, .ref (ad g 21 0)), (1, .int x1)]) hx hb dX6_meanOf_9 hl (by decide) rfl (fun ls hl => ?_)
  exact P_11 _ _ _ _ _ _ _ _ hW (lv_sub hl [3, 4, 2, 1, 0] rfl) hf
set_option maxRecDepth 100000 in
set_option maxHeartbeats 4000000 in
theorem c_X6_show (l : Launch) (g : gG) (hDW : DW g) (x1 : Int32) (x2 : Int32) (mm : gM) (r0 : Int32) (mZ : gM) (hf : fX6_show x1 x2 mm = some (r0, mZ)) : Met l yX6_show (Cond.code yX6_show cX6_show 4 (some .int) :: ALLW) rm_X6_show (CPre g mm [.ref (ad g 21 0), .int x1, .int x2]) (CI g mZ r0) 0 0 (gA g) := by
  refine Met.ofW (cc := cX6_show) (maxL := 4) (ret := (some .int)) (by decide) rfl ?_
  intro p e s m args below meth c s₁ B hml hv
  obtain ⟨ha, hFx, hP0, hlo⟩ := hv
  have X : Cx g p s m args c meth RX6 cX6_show := Cx_of hDW hFx hlo B
  have hx := X.1
  have hb := X.2.1
  have hr := B.returns
  have hlocks := X.2.2.2.2.2.2.2
  have hW : Wd g mm s s.heap [] := ⟨hP0, va_S.rf⟩
  rw [ha, lg_entry_eq]
  have hl := lv_entry ([.ref (ad g 21 0), .int x1, .int x2] : List Value) (n := 4) (Nat.le_of_ble_eq_true rfl)
  generalize (lg_sl ([.ref (ad g 21 0), .int x1, .int x2] : List Value) ++ List.replicate (4 - (lg_sl ([.ref (ad g 21 0), .int x1, .int x2] : List Value)).length) Slot.unset).toArray = ls at hl ⊢
  have hl : lv_has ls 4 [(0, .ref (ad g 21 0)), (1, .int x1), (2, .int x2)] := hl
  rw [← ha]
  show W p l e rm_X6_show s m args below meth c s.heap [] 0 0 (MQ below (CI g mZ r0) args s 0 0 (gA g)) (F0 m 0 ls [])
  unfold fX6_show at hf
  refine lv_aload_n hx hb dX6_show_0 rfl (lv_at hl 0 rfl) ?_
  refine lv_iconst (v := 0) hx hb dX6_show_1 (by decide) ?_
  obtain ⟨m1, ex, hf⟩ := wth_ex hf
  refine pf_21_0 X hW (by decide) mw_947 dX6_show_2 (fun H locs hW => ?_)
  replace hW := hW.same ex
  clear ex
  refine lv_iload_n hx hb dX6_show_5 rfl (lv_at hl 1 rfl) ?_
  obtain ⟨r3, e2, hf⟩ := bnd_ex hf
  refine k_i X hW (k_S (As := [.int x1]) (rest := []) X hW hml hl.1 (c_X6_isSlot l g hDW  _ m1 _ e2) ⟨mw_1013, kw_X6_isSlot⟩ ⟨⟨rfl, rfl⟩, ko_X6_isSlot, ⟨Nat.le_of_ble_eq_true rfl, Nat.le_of_ble_eq_true rfl⟩⟩ rfl rfl (Nat.le_of_ble_eq_true rfl) dX6_show_6 ⟨Nat.le_of_ble_eq_true rfl, Nat.le_of_ble_eq_true rfl⟩) (fun H locs hW => ?_)
  refine lv_if_ne (tgt := 18) hx hb dX6_show_9 (by decide) (fun c24 => ?_) (fun c24 => ?_)
  · replace hf := ite_f hf c24
    refine lv_iload_n hx hb dX6_show_18 rfl (lv_at hl 2 rfl) ?_
    refine lv_iconst (v := 0) hx hb dX6_show_19 (by decide) ?_
    refine lv_bipush (v := 17) hx hb dX6_show_20 (by decide) ?_
    obtain ⟨r6, e5, hf⟩ := bnd_ex hf
    refine k_i X hW (k_S (As := [.int x2, .int 0, .int 17]) (rest := []) X hW hml hl.1 (c_X6_in l g hDW  _ _ _ m1 _ e5) ⟨mw_1016, kw_X6_in⟩ ⟨⟨rfl, rfl⟩, ko_X6_in, ⟨Nat.le_of_ble_eq_true rfl, Nat.le_of_ble_eq_true rfl⟩⟩ rfl rfl (Nat.le_of_ble_eq_true rfl) dX6_show_22 ⟨Nat.le_of_ble_eq_true rfl, Nat.le_of_ble_eq_true rfl⟩) (fun H locs hW => ?_)
    refine lv_if_ne (tgt := 34) hx hb dX6_show_25 (by decide) (fun c20 => ?_) (fun c20 => ?_)
    · replace hf := ite_f hf c20
      refine lv_aload_n hx hb dX6_show_34 rfl (lv_at hl 0 rfl) ?_
      obtain ⟨m10, e8, hf⟩ := bnd_ex hf
      refine k_v X hW (k_V (As := []) (rest := []) X hW hml hl.1 (c_X6_saves l g hDW   m1 _ e8) (r_recv X hW 21 0 (by decide) (by decide) rfl rfl) ⟨mw_1023, kw_X6_saves⟩ ⟨⟨rfl, rfl⟩, ko_X6_saves, ⟨Nat.le_of_ble_eq_true rfl, Nat.le_of_ble_eq_true rfl⟩⟩ rfl rfl (Nat.le_of_ble_eq_true rfl) dX6_show_35 ⟨Nat.le_of_ble_eq_true rfl, Nat.le_of_ble_eq_true rfl⟩) (fun H locs hW => ?_)
      refine lv_aload_n hx hb dX6_show_38 rfl (lv_at hl 0 rfl) ?_
      refine lv_iload_n hx hb dX6_show_39 rfl (lv_at hl 1 rfl) ?_
      refine lv_iconst (v := 0) hx hb dX6_show_40 (by decide) ?_
      obtain ⟨r12, e11, hf⟩ := bnd_ex hf
      refine k_i X hW (k_V (As := [.int x1, .int 0]) (rest := []) X hW hml hl.1 (c_X6_of l g hDW  _ _ m10 _ e11) (r_recv X hW 21 0 (by decide) (by decide) rfl rfl) ⟨mw_1027, kw_X6_of⟩ ⟨⟨rfl, rfl⟩, ko_X6_of, ⟨Nat.le_of_ble_eq_true rfl, Nat.le_of_ble_eq_true rfl⟩⟩ rfl rfl (Nat.le_of_ble_eq_true rfl) dX6_show_41 ⟨Nat.le_of_ble_eq_true rfl, Nat.le_of_ble_eq_true rfl⟩) (fun H locs hW => ?_)
      refine lv_istore_n (lv' := [(3, .int r12), (0, .ref (ad g 21 0)), (1, .int x1), (2, .int x2)]) hx hb dX6_show_44 rfl hl (by decide) rfl (fun ls hl => ?_)
      refine lv_aload_n hx hb dX6_show_45 rfl (lv_at hl 1 rfl) ?_
      refine lv_iload_n hx hb dX6_show_46 rfl (lv_at hl 2 rfl) ?_
      refine lv_iconst (v := 0) hx hb dX6_show_47 (by decide) ?_
      refine lv_iload_n hx hb dX6_show_48 rfl (lv_at hl 3 rfl) ?_
      obtain ⟨m16, e14, hf⟩ := bnd_ex hf
      refine k_v X hW (k_V (As := [.int x1, .int 0, .int x2]) (rest := []) X hW hml hl.1 (c_X6_lay l g hDW  _ _ _ m10 _ e14) (r_recv X hW 21 0 (by decide) (by decide) rfl rfl) ⟨mw_943, kw_X6_lay⟩ ⟨⟨rfl, rfl⟩, ko_X6_lay, ⟨Nat.le_of_ble_eq_true rfl, Nat.le_of_ble_eq_true rfl⟩⟩ rfl rfl (Nat.le_of_ble_eq_true rfl) dX6_show_49 ⟨Nat.le_of_ble_eq_true rfl, Nat.le_of_ble_eq_true rfl⟩) (fun H locs hW => ?_)
      refine lv_iload_n hx hb dX6_show_52 rfl (lv_at hl 0 rfl) ?_
      obtain ⟨hf, hm⟩ := prinj hf
      replace hW := hW.same hm.symm
      exact e_i X hr hW (hf) dX6_show_53
    · replace hf := ite_t hf c20
      refine lv_aload_n hx hb dX6_show_28 rfl (lv_at hl 0 rfl) ?_
      refine lv_iconst (v := 2) hx hb dX6_show_29 (by decide) ?_
      obtain ⟨r18, m19, e17, hf⟩ := bn2_ex hf
      refine k_i X hW (k_V (As := [.int 2]) (rest := []) X hW hml hl.1 (c_X6_fails l g hDW  _ m1 _ _ e17) (r_recv X hW 21 0 (by decide) (by decide) rfl rfl) ⟨mw_1019, kw_X6_fails⟩ ⟨⟨rfl, rfl⟩, ko_X6_fails, ⟨Nat.le_of_ble_eq_true rfl, Nat.le_of_ble_eq_true rfl⟩⟩ rfl rfl (Nat.le_of_ble_eq_true rfl) dX6_show_30 ⟨Nat.le_of_ble_eq_true rfl, Nat.le_of_ble_eq_true rfl⟩) (fun H locs hW => ?_)
      obtain ⟨hf, hm⟩ := prinj hf
      replace hW := hW.same hm.symm
      exact e_i X hr hW (hf) dX6_show_33
  · replace hf := ite_t hf c24
    refine lv_aload_n hx hb dX6_show_12 rfl (lv_at hl 0 rfl) ?_
    refine lv_iconst (v := 1) hx hb dX6_show_13 (by decide) ?_
    obtain ⟨r22, m23, e21, hf⟩ := bn2_ex hf
    refine k_i X hW (k_V (As := [.int 1]) (rest := []) X hW hml hl.1 (c_X6_fails l g hDW  _ m1 _ _ e21) (r_recv X hW 21 0 (by decide) (by decide) rfl rfl) ⟨mw_1019, kw_X6_fails⟩ ⟨⟨rfl, rfl⟩, ko_X6_fails, ⟨Nat.le_of_ble_eq_true rfl, Nat.le_of_ble_eq_true rfl⟩⟩ rfl rfl (Nat.le_of_ble_eq_true rfl) dX6_show_14 ⟨Nat.le_of_ble_eq_true rfl, Nat.le_of_ble_eq_true rfl⟩) (fun H locs hW => ?_)
    obtain ⟨hf, hm⟩ := prinj hf
    replace hW := hW.same hm.symm
    exact e_i X hr hW (hf) dX6_show_17
set_option maxRecDepth 100000 in
set_option maxHeartbeats 4000000 in
theorem c_X6_dot (l : Launch) (g : gG) (hDW : DW g) (x1 : Int32) (mm : gM) (r0 : Int32) (mZ : gM) (hf : fX6_dot x1 mm = some (r0, mZ)) : Met l yX6_dot (Cond.code yX6_dot cX6_dot 2 (some .int) :: ALLW) rm_X6_dot (CPre g mm [.ref (ad g 21 0), .int x1]) (CI g mZ r0) 0 0 (gA g) := by
  refine Met.ofW (cc := cX6_dot) (maxL := 2) (ret := (some .int)) (by decide) rfl ?_
  intro p e s m args below meth c s₁ B hml hv
  obtain ⟨ha, hFx, hP0, hlo⟩ := hv
  have X : Cx g p s m args c meth RX6 cX6_dot := Cx_of hDW hFx hlo B
  have hx := X.1
  have hb := X.2.1
  have hr := B.returns
  have hlocks := X.2.2.2.2.2.2.2
  have hW : Wd g mm s s.heap [] := ⟨hP0, va_S.rf⟩
  rw [ha, lg_entry_eq]
  have hl := lv_entry ([.ref (ad g 21 0), .int x1] : List Value) (n := 2) (Nat.le_of_ble_eq_true rfl)
  generalize (lg_sl ([.ref (ad g 21 0), .int x1] : List Value) ++ List.replicate (2 - (lg_sl ([.ref (ad g 21 0), .int x1] : List Value)).length) Slot.unset).toArray = ls at hl ⊢
  have hl : lv_has ls 2 [(0, .ref (ad g 21 0)), (1, .int x1)] := hl
  rw [← ha]
  show W p l e rm_X6_dot s m args below meth c s.heap [] 0 0 (MQ below (CI g mZ r0) args s 0 0 (gA g)) (F0 m 0 ls [])
  unfold fX6_dot at hf
  refine lv_aload_n hx hb dX6_dot_0 rfl (lv_at hl 0 rfl) ?_
  refine lv_iconst (v := 0) hx hb dX6_dot_1 (by decide) ?_
  obtain ⟨m1, ex, hf⟩ := wth_ex hf
  refine pf_21_0 X hW (by decide) mw_947 dX6_dot_2 (fun H locs hW => ?_)
  replace hW := hW.same ex
  clear ex
  refine lv_iload_n hx hb dX6_dot_5 rfl (lv_at hl 1 rfl) ?_
  obtain ⟨r3, e2, hf⟩ := bnd_ex hf
  refine k_i X hW (k_S (As := [.int x1]) (rest := []) X hW hml hl.1 (c_X6_isSlot l g hDW  _ m1 _ e2) ⟨mw_1013, kw_X6_isSlot⟩ ⟨⟨rfl, rfl⟩, ko_X6_isSlot, ⟨Nat.le_of_ble_eq_true rfl, Nat.le_of_ble_eq_true rfl⟩⟩ rfl rfl (Nat.le_of_ble_eq_true rfl) dX6_dot_6 ⟨Nat.le_of_ble_eq_true rfl, Nat.le_of_ble_eq_true rfl⟩) (fun H locs hW => ?_)
  refine lv_if_ne (tgt := 18) hx hb dX6_dot_9 (by decide) (fun c20 => ?_) (fun c20 => ?_)
  · replace hf := ite_f hf c20
    refine lv_aload_n hx hb dX6_dot_18 rfl (lv_at hl 0 rfl) ?_
    obtain ⟨m7, e5, hf⟩ := bnd_ex hf
    refine k_v X hW (k_V (As := []) (rest := []) X hW hml hl.1 (c_X6_saves l g hDW   m1 _ e5) (r_recv X hW 21 0 (by decide) (by decide) rfl rfl) ⟨mw_1023, kw_X6_saves⟩ ⟨⟨rfl, rfl⟩, ko_X6_saves, ⟨Nat.le_of_ble_eq_true rfl, Nat.le_of_ble_eq_true rfl⟩⟩ rfl rfl (Nat.le_of_ble_eq_true rfl) dX6_dot_19 ⟨Nat.le_of_ble_eq_true rfl, Nat.le_of_ble_eq_true rfl⟩) (fun H locs hW => ?_)
    refine lv_aload_n hx hb dX6_dot_22 rfl (lv_at hl 0 rfl) ?_
    refine lv_iload_n hx hb dX6_dot_23 rfl (lv_at hl 1 rfl) ?_
    refine lv_iconst (v := 1) hx hb dX6_dot_24 (by decide) ?_
    refine lv_iconst (v := 1) hx hb dX6_dot_25 (by decide) ?_
    refine lv_aload_n hx hb dX6_dot_26 rfl (lv_at hl 0 rfl) ?_
    refine lv_iload_n hx hb dX6_dot_27 rfl (lv_at hl 1 rfl) ?_
    refine lv_iconst (v := 1) hx hb dX6_dot_28 (by decide) ?_
    obtain ⟨r9, e8, hf⟩ := bnd_ex hf
    refine k_i X hW (k_V (As := [.int x1, .int 1]) (rest := [.int 1, .int 1, .int x1, .ref (ad g 21 0)]) X hW hml hl.1 (c_X6_of l g hDW  _ _ m7 _ e8) (r_recv X hW 21 0 (by decide) (by decide) rfl rfl) ⟨mw_1027, kw_X6_of⟩ ⟨⟨rfl, rfl⟩, ko_X6_of, ⟨Nat.le_of_ble_eq_true rfl, Nat.le_of_ble_eq_true rfl⟩⟩ rfl rfl (Nat.le_of_ble_eq_true rfl) dX6_dot_29 ⟨Nat.le_of_ble_eq_true rfl, Nat.le_of_ble_eq_true rfl⟩) (fun H locs hW => ?_)
    refine lv_isub hx hb dX6_dot_32 ?_
    obtain ⟨m13, e11, hf⟩ := bnd_ex hf
    refine k_v X hW (k_V (As := [.int x1, .int 1, .int (1 - r9)]) (rest := []) X hW hml hl.1 (c_X6_lay l g hDW  _ _ _ m7 _ e11) (r_recv X hW 21 0 (by decide) (by decide) rfl rfl) ⟨mw_943, kw_X6_lay⟩ ⟨⟨rfl, rfl⟩, ko_X6_lay, ⟨Nat.le_of_ble_eq_true rfl, Nat.le_of_ble_eq_true rfl⟩⟩ rfl rfl (Nat.le_of_ble_eq_true rfl) dX6_dot_33 ⟨Nat.le_of_ble_eq_true rfl, Nat.le_of_ble_eq_true rfl⟩) (fun H locs hW => ?_)
    refine lv_aload_n hx hb dX6_dot_36 rfl (lv_at hl 0 rfl) ?_
    refine lv_iload_n hx hb dX6_dot_37 rfl (lv_at hl 1 rfl) ?_
    refine lv_iconst (v := 1) hx hb dX6_dot_38 (by decide) ?_
    obtain ⟨r15, e14, hf⟩ := bnd_ex hf
    refine k_i X hW (k_V (As := [.int x1, .int 1]) (rest := []) X hW hml hl.1 (c_X6_of l g hDW  _ _ m13 _ e14) (r_recv X hW 21 0 (by decide) (by decide) rfl rfl) ⟨mw_1027, kw_X6_of⟩ ⟨⟨rfl, rfl⟩, ko_X6_of, ⟨Nat.le_of_ble_eq_true rfl, Nat.le_of_ble_eq_true rfl⟩⟩ rfl rfl (Nat.le_of_ble_eq_true rfl) dX6_dot_39 ⟨Nat.le_of_ble_eq_true rfl, Nat.le_of_ble_eq_true rfl⟩) (fun H locs hW => ?_)
    obtain ⟨hf, hm⟩ := prinj hf
    replace hW := hW.same hm.symm
    exact e_i X hr hW (hf) dX6_dot_42
  · replace hf := ite_t hf c20
    refine lv_aload_n hx hb dX6_dot_12 rfl (lv_at hl 0 rfl) ?_
    refine lv_iconst (v := 1) hx hb dX6_dot_13 (by decide) ?_
    obtain ⟨r18, m19, e17, hf⟩ := bn2_ex hf
    refine k_i X hW (k_V (As := [.int 1]) (rest := []) X hW hml hl.1 (c_X6_fails l g hDW  _ m1 _ _ e17) (r_recv X hW 21 0 (by decide) (by decide) rfl rfl) ⟨mw_1019, kw_X6_fails⟩ ⟨⟨rfl, rfl⟩, ko_X6_fails, ⟨Nat.le_of_ble_eq_true rfl, Nat.le_of_ble_eq_true rfl⟩⟩ rfl rfl (Nat.le_of_ble_eq_true rfl) dX6_dot_14 ⟨Nat.le_of_ble_eq_true rfl, Nat.le_of_ble_eq_true rfl⟩) (fun H locs hW => ?_)
    obtain ⟨hf, hm⟩ := prinj hf
    replace hW := hW.same hm.symm
    exact e_i X hr hW (hf) dX6_dot_17
set_option maxRecDepth 100000 in
set_option maxHeartbeats 4000000 in
theorem c_X6_burn (l : Launch) (g : gG) (hDW : DW g) (x1 : Int32) (x2 : Int32) (mm : gM) (r0 : Int32) (mZ : gM) (hf : fX6_burn x1 x2 mm = some (r0, mZ)) : Met l yX6_burn (Cond.code yX6_burn cX6_burn 3 (some .int) :: ALLW) rm_X6_burn (CPre g mm [.ref (ad g 21 0), .int x1, .int x2]) (CI g mZ r0) 0 0 (gA g) := by
  refine Met.ofW (cc := cX6_burn) (maxL := 3) (ret := (some .int)) (by decide) rfl ?_
  intro p e s m args below meth c s₁ B hml hv
  obtain ⟨ha, hFx, hP0, hlo⟩ := hv
  have X : Cx g p s m args c meth RX6 cX6_burn := Cx_of hDW hFx hlo B
  have hx := X.1
  have hb := X.2.1
  have hr := B.returns
  have hlocks := X.2.2.2.2.2.2.2
  have hW : Wd g mm s s.heap [] := ⟨hP0, va_S.rf⟩
  rw [ha, lg_entry_eq]
  have hl := lv_entry ([.ref (ad g 21 0), .int x1, .int x2] : List Value) (n := 3) (Nat.le_of_ble_eq_true rfl)
  generalize (lg_sl ([.ref (ad g 21 0), .int x1, .int x2] : List Value) ++ List.replicate (3 - (lg_sl ([.ref (ad g 21 0), .int x1, .int x2] : List Value)).length) Slot.unset).toArray = ls at hl ⊢
  have hl : lv_has ls 3 [(0, .ref (ad g 21 0)), (1, .int x1), (2, .int x2)] := hl
  rw [← ha]
  show W p l e rm_X6_burn s m args below meth c s.heap [] 0 0 (MQ below (CI g mZ r0) args s 0 0 (gA g)) (F0 m 0 ls [])
  have P_19 : ∀ (mm : gM) (H : Heap) (locs : List Loc) (ls : Array Slot), Wd g mm s H locs → lv_has ls 3 [(0, .ref (ad g 21 0))] → jX6_burn_19 mm = some (r0, mZ) → W p l e rm_X6_burn s m args below meth c H locs 0 0 (MQ below (CI g mZ r0) args s 0 0 (gA g)) (F0 m 19 ls []) := by
    intro mm H locs ls hW hl hf
    unfold jX6_burn_19 at hf
    refine lv_aload_n hx hb dX6_burn_19 rfl (lv_at hl 0 rfl) ?_
    refine lv_iconst (v := 1) hx hb dX6_burn_20 (by decide) ?_
    obtain ⟨r23, m24, e22, hf⟩ := bn2_ex hf
    refine k_i X hW (k_V (As := [.int 1]) (rest := []) X hW hml hl.1 (c_X6_fails l g hDW  _ mm _ _ e22) (r_recv X hW 21 0 (by decide) (by decide) rfl rfl) ⟨mw_1019, kw_X6_fails⟩ ⟨⟨rfl, rfl⟩, ko_X6_fails, ⟨Nat.le_of_ble_eq_true rfl, Nat.le_of_ble_eq_true rfl⟩⟩ rfl rfl (Nat.le_of_ble_eq_true rfl) dX6_burn_21 ⟨Nat.le_of_ble_eq_true rfl, Nat.le_of_ble_eq_true rfl⟩) (fun H locs hW => ?_)
    obtain ⟨hf, hm⟩ := prinj hf
    replace hW := hW.same hm.symm
    exact e_i X hr hW (hf) dX6_burn_24
  unfold fX6_burn at hf
  refine lv_aload_n hx hb dX6_burn_0 rfl (lv_at hl 0 rfl) ?_
  refine lv_iconst (v := 0) hx hb dX6_burn_1 (by decide) ?_
  obtain ⟨m1, ex, hf⟩ := wth_ex hf
  refine pf_21_0 X hW (by decide) mw_947 dX6_burn_2 (fun H locs hW => ?_)
  replace hW := hW.same ex
  clear ex
  refine lv_iload_n hx hb dX6_burn_5 rfl (lv_at hl 1 rfl) ?_
  obtain ⟨r3, e2, hf⟩ := bnd_ex hf
  refine k_i X hW (k_S (As := [.int x1]) (rest := []) X hW hml hl.1 (c_X6_isSlot l g hDW  _ m1 _ e2) ⟨mw_1013, kw_X6_isSlot⟩ ⟨⟨rfl, rfl⟩, ko_X6_isSlot, ⟨Nat.le_of_ble_eq_true rfl, Nat.le_of_ble_eq_true rfl⟩⟩ rfl rfl (Nat.le_of_ble_eq_true rfl) dX6_burn_6 ⟨Nat.le_of_ble_eq_true rfl, Nat.le_of_ble_eq_true rfl⟩) (fun H locs hW => ?_)
  refine lv_if_eq (tgt := 19) hx hb dX6_burn_9 (by decide) (fun c21 => ?_) (fun c21 => ?_)
  · replace hf := ite_t hf c21
    exact P_19 _ _ _ _ hW (lv_sub hl [0] rfl) hf
  · replace hf := ite_f hf c21
    refine lv_iload_n hx hb dX6_burn_12 rfl (lv_at hl 2 rfl) ?_
    obtain ⟨r6, e5, hf⟩ := bnd_ex hf
    refine k_i X hW (k_S (As := [.int x2]) (rest := []) X hW hml hl.1 (c_X6_isSegment l g hDW  _ m1 _ e5) ⟨mw_1039, kw_X6_isSegment⟩ ⟨⟨rfl, rfl⟩, ko_X6_isSegment, ⟨Nat.le_of_ble_eq_true rfl, Nat.le_of_ble_eq_true rfl⟩⟩ rfl rfl (Nat.le_of_ble_eq_true rfl) dX6_burn_13 ⟨Nat.le_of_ble_eq_true rfl, Nat.le_of_ble_eq_true rfl⟩) (fun H locs hW => ?_)
    refine lv_if_ne (tgt := 25) hx hb dX6_burn_16 (by decide) (fun c20 => ?_) (fun c20 => ?_)
    · replace hf := ite_f hf c20
      refine lv_aload_n hx hb dX6_burn_25 rfl (lv_at hl 0 rfl) ?_
      obtain ⟨m10, e8, hf⟩ := bnd_ex hf
      refine k_v X hW (k_V (As := []) (rest := []) X hW hml hl.1 (c_X6_saves l g hDW   m1 _ e8) (r_recv X hW 21 0 (by decide) (by decide) rfl rfl) ⟨mw_1023, kw_X6_saves⟩ ⟨⟨rfl, rfl⟩, ko_X6_saves, ⟨Nat.le_of_ble_eq_true rfl, Nat.le_of_ble_eq_true rfl⟩⟩ rfl rfl (Nat.le_of_ble_eq_true rfl) dX6_burn_26 ⟨Nat.le_of_ble_eq_true rfl, Nat.le_of_ble_eq_true rfl⟩) (fun H locs hW => ?_)
      refine lv_aload_n hx hb dX6_burn_29 rfl (lv_at hl 0 rfl) ?_
      refine lv_iload_n hx hb dX6_burn_30 rfl (lv_at hl 1 rfl) ?_
      refine lv_iconst (v := 3) hx hb dX6_burn_31 (by decide) ?_
      refine lv_aload_n hx hb dX6_burn_32 rfl (lv_at hl 0 rfl) ?_
      refine lv_iload_n hx hb dX6_burn_33 rfl (lv_at hl 1 rfl) ?_
      refine lv_iconst (v := 3) hx hb dX6_burn_34 (by decide) ?_
      obtain ⟨r12, e11, hf⟩ := bnd_ex hf
      refine k_i X hW (k_V (As := [.int x1, .int 3]) (rest := [.int 3, .int x1, .ref (ad g 21 0)]) X hW hml hl.1 (c_X6_of l g hDW  _ _ m10 _ e11) (r_recv X hW 21 0 (by decide) (by decide) rfl rfl) ⟨mw_1027, kw_X6_of⟩ ⟨⟨rfl, rfl⟩, ko_X6_of, ⟨Nat.le_of_ble_eq_true rfl, Nat.le_of_ble_eq_true rfl⟩⟩ rfl rfl (Nat.le_of_ble_eq_true rfl) dX6_burn_35 ⟨Nat.le_of_ble_eq_true rfl, Nat.le_of_ble_eq_true rfl⟩) (fun H locs hW => ?_)
      refine lv_iconst (v := 1) hx hb dX6_burn_38 (by decide) ?_
      refine lv_iload_n hx hb dX6_burn_39 rfl (lv_at hl 2 rfl) ?_
      refine lv_ishl hx hb dX6_burn_40 ?_
      refine lv_ixor hx hb dX6_burn_41 ?_
      obtain ⟨m16, e14, hf⟩ := bnd_ex hf
      refine k_v X hW (k_V (As := [.int x1, .int 3, .int (r12 ^^^ (1 <<< (x2 &&& 31)))]) (rest := []) X hW hml hl.1 (c_X6_lay l g hDW  _ _ _ m10 _ e14) (r_recv X hW 21 0 (by decide) (by decide) rfl rfl) ⟨mw_943, kw_X6_lay⟩ ⟨⟨rfl, rfl⟩, ko_X6_lay, ⟨Nat.le_of_ble_eq_true rfl, Nat.le_of_ble_eq_true rfl⟩⟩ rfl rfl (Nat.le_of_ble_eq_true rfl) dX6_burn_42 ⟨Nat.le_of_ble_eq_true rfl, Nat.le_of_ble_eq_true rfl⟩) (fun H locs hW => ?_)
      refine lv_aload_n hx hb dX6_burn_45 rfl (lv_at hl 0 rfl) ?_
      refine lv_iload_n hx hb dX6_burn_46 rfl (lv_at hl 1 rfl) ?_
      refine lv_iconst (v := 3) hx hb dX6_burn_47 (by decide) ?_
      obtain ⟨r18, e17, hf⟩ := bnd_ex hf
      refine k_i X hW (k_V (As := [.int x1, .int 3]) (rest := []) X hW hml hl.1 (c_X6_of l g hDW  _ _ m16 _ e17) (r_recv X hW 21 0 (by decide) (by decide) rfl rfl) ⟨mw_1027, kw_X6_of⟩ ⟨⟨rfl, rfl⟩, ko_X6_of, ⟨Nat.le_of_ble_eq_true rfl, Nat.le_of_ble_eq_true rfl⟩⟩ rfl rfl (Nat.le_of_ble_eq_true rfl) dX6_burn_48 ⟨Nat.le_of_ble_eq_true rfl, Nat.le_of_ble_eq_true rfl⟩) (fun H locs hW => ?_)
      refine lv_iload_n hx hb dX6_burn_51 rfl (lv_at hl 2 rfl) ?_
      refine lv_ishr hx hb dX6_burn_52 ?_
      refine lv_iconst (v := 1) hx hb dX6_burn_53 (by decide) ?_
      refine lv_iand hx hb dX6_burn_54 ?_
      obtain ⟨hf, hm⟩ := prinj hf
      replace hW := hW.same hm.symm
      exact e_i X hr hW (hf) dX6_burn_55
    · replace hf := ite_t hf c20
      exact P_19 _ _ _ _ hW (lv_sub hl [0] rfl) hf
