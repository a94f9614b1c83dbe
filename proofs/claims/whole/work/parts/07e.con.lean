set_option maxRecDepth 100000 in
set_option maxHeartbeats 4000000 in
theorem c_X6_cut (l : Launch) (g : gG) (hDW : DW g) (x1 : Int32) (mm : gM) (r0 : Int32) (mZ : gM) (hf : fX6_cut x1 mm = some (r0, mZ)) : Met l yX6_cut (Cond.code yX6_cut cX6_cut 2 (some .int) :: ALLW) rm_X6_cut (CPre g mm [.ref (ad g 21 0), .int x1]) (CI g mZ r0) 0 0 (gA g) := by
  refine Met.ofW (cc := cX6_cut) (maxL := 2) (ret := (some .int)) (by decide) rfl ?_
  intro p e s m args below meth c s₁ B hml hv
  obtain ⟨ha, hFx, hP0, hlo⟩ := hv
  have X : Cx g p s m args c meth RX6 cX6_cut := Cx_of hDW hFx hlo B
  have hx := X.1
  have hb := X.2.1
  have hr := B.returns
  have hlocks := X.2.2.2.2.2.2.2
  have hW : Wd g mm s s.heap [] := ⟨hP0, va_S.rf⟩
  rw [ha, lg_entry_eq]
  have hl := lv_entry ([.ref (ad g 21 0), .int x1] : List Value) (n := 2) (Nat.le_of_ble_eq_true rfl)
  generalize (lg_sl ([.ref (ad g 21 0), .int x1] : List Value) ++ List.replicate (2 - (lg_sl ([.ref (ad g 21 0), .int x1] : List Value)).length) Slot.unset).toArray = ls at hl ⊢
  have hl : lv_has ls 2 [(0, .ref (ad g 21 0)), (1, .int x1)] := hl
  rw [← ha]
  show W p l e rm_X6_cut s m args below meth c s.heap [] 0 0 (MQ below (CI g mZ r0) args s 0 0 (gA g)) (F0 m 0 ls [])
  unfold fX6_cut at hf
  refine lv_aload_n hx hb dX6_cut_0 rfl (lv_at hl 0 rfl) ?_
  refine lv_iconst (v := 0) hx hb dX6_cut_1 (by decide) ?_
  obtain ⟨m1, ex, hf⟩ := wth_ex hf
  refine pf_21_0 X hW (by decide) mw_947 dX6_cut_2 (fun H locs hW => ?_)
  replace hW := hW.same ex
  clear ex
  refine lv_iload_n hx hb dX6_cut_5 rfl (lv_at hl 1 rfl) ?_
  obtain ⟨r3, e2, hf⟩ := bnd_ex hf
  refine k_i X hW (k_S (As := [.int x1]) (rest := []) X hW hml hl.1 (c_X6_isSegment l g hDW  _ m1 _ e2) ⟨mw_1039, kw_X6_isSegment⟩ ⟨⟨rfl, rfl⟩, ko_X6_isSegment, ⟨Nat.le_of_ble_eq_true rfl, Nat.le_of_ble_eq_true rfl⟩⟩ rfl rfl (Nat.le_of_ble_eq_true rfl) dX6_cut_6 ⟨Nat.le_of_ble_eq_true rfl, Nat.le_of_ble_eq_true rfl⟩) (fun H locs hW => ?_)
  refine lv_if_ne (tgt := 18) hx hb dX6_cut_9 (by decide) (fun c15 => ?_) (fun c15 => ?_)
  · replace hf := ite_f hf c15
    refine lv_aload_n hx hb dX6_cut_18 rfl (lv_at hl 0 rfl) ?_
    obtain ⟨m7, e5, hf⟩ := bnd_ex hf
    refine k_v X hW (k_V (As := []) (rest := []) X hW hml hl.1 (c_X6_saves l g hDW   m1 _ e5) (r_recv X hW 21 0 (by decide) (by decide) rfl rfl) ⟨mw_1023, kw_X6_saves⟩ ⟨⟨rfl, rfl⟩, ko_X6_saves, ⟨Nat.le_of_ble_eq_true rfl, Nat.le_of_ble_eq_true rfl⟩⟩ rfl rfl (Nat.le_of_ble_eq_true rfl) dX6_cut_19 ⟨Nat.le_of_ble_eq_true rfl, Nat.le_of_ble_eq_true rfl⟩) (fun H locs hW => ?_)
    refine lv_aload_n hx hb dX6_cut_22 rfl (lv_at hl 0 rfl) ?_
    refine gf_21_1 X hW (by decide) mw_948 dX6_cut_23 ?_
    refine lv_iconst (v := 4) hx hb dX6_cut_26 (by decide) ?_
    refine lv_aload_n hx hb dX6_cut_27 rfl (lv_at hl 0 rfl) ?_
    refine gf_21_1 X hW (by decide) mw_948 dX6_cut_28 ?_
    refine lv_iconst (v := 4) hx hb dX6_cut_31 (by decide) ?_
    obtain ⟨b8, hf⟩ := chk_ex hf
    refine r_iald X hW 22 0 (by decide) (by decide) rfl b8 dX6_cut_32 ?_
    refine lv_iconst (v := 1) hx hb dX6_cut_33 (by decide) ?_
    refine lv_iload_n hx hb dX6_cut_34 rfl (lv_at hl 1 rfl) ?_
    refine lv_ishl hx hb dX6_cut_35 ?_
    refine lv_ixor hx hb dX6_cut_36 ?_
    obtain ⟨b9, hf⟩ := chk_ex hf
    obtain ⟨m10, ex, hf⟩ := wth_ex hf
    refine r_iast X hW 22 0 (by decide) (by decide) (fun _ => rfl) b9 dX6_cut_37 (fun H locs hW => ?_)
    replace hW := hW.same ex
    clear ex
    refine lv_aload_n hx hb dX6_cut_38 rfl (lv_at hl 0 rfl) ?_
    refine gf_21_1 X hW (by decide) mw_948 dX6_cut_39 ?_
    refine lv_iconst (v := 4) hx hb dX6_cut_42 (by decide) ?_
    obtain ⟨b11, hf⟩ := chk_ex hf
    refine r_iald X hW 22 0 (by decide) (by decide) rfl b11 dX6_cut_43 ?_
    refine lv_iload_n hx hb dX6_cut_44 rfl (lv_at hl 1 rfl) ?_
    refine lv_ishr hx hb dX6_cut_45 ?_
    refine lv_iconst (v := 1) hx hb dX6_cut_46 (by decide) ?_
    refine lv_iand hx hb dX6_cut_47 ?_
    obtain ⟨hf, hm⟩ := prinj hf
    replace hW := hW.same hm.symm
    exact e_i X hr hW (hf) dX6_cut_48
  · replace hf := ite_t hf c15
    refine lv_aload_n hx hb dX6_cut_12 rfl (lv_at hl 0 rfl) ?_
    refine lv_iconst (v := 1) hx hb dX6_cut_13 (by decide) ?_
    obtain ⟨r13, m14, e12, hf⟩ := bn2_ex hf
    refine k_i X hW (k_V (As := [.int 1]) (rest := []) X hW hml hl.1 (c_X6_fails l g hDW  _ m1 _ _ e12) (r_recv X hW 21 0 (by decide) (by decide) rfl rfl) ⟨mw_1019, kw_X6_fails⟩ ⟨⟨rfl, rfl⟩, ko_X6_fails, ⟨Nat.le_of_ble_eq_true rfl, Nat.le_of_ble_eq_true rfl⟩⟩ rfl rfl (Nat.le_of_ble_eq_true rfl) dX6_cut_14 ⟨Nat.le_of_ble_eq_true rfl, Nat.le_of_ble_eq_true rfl⟩) (fun H locs hW => ?_)
    obtain ⟨hf, hm⟩ := prinj hf
    replace hW := hW.same hm.symm
    exact e_i X hr hW (hf) dX6_cut_17
set_option maxRecDepth 100000 in
set_option maxHeartbeats 4000000 in
theorem c_X6_time (l : Launch) (g : gG) (hDW : DW g) (x1 : Int32) (x2 : Int32) (mm : gM) (r0 : Int32) (mZ : gM) (hf : fX6_time x1 x2 mm = some (r0, mZ)) : Met l yX6_time (Cond.code yX6_time cX6_time 4 (some .int) :: ALLW) rm_X6_time (CPre g mm [.ref (ad g 21 0), .int x1, .int x2]) (CI g mZ r0) 0 0 (gA g) := by
  refine Met.ofW (cc := cX6_time) (maxL := 4) (ret := (some .int)) (by decide) rfl ?_
  intro p e s m args below meth c s₁ B hml hv
  obtain ⟨ha, hFx, hP0, hlo⟩ := hv
  have X : Cx g p s m args c meth RX6 cX6_time := Cx_of hDW hFx hlo B
  have hx := X.1
  have hb := X.2.1
  have hr := B.returns
  have hlocks := X.2.2.2.2.2.2.2
  have hW : Wd g mm s s.heap [] := ⟨hP0, va_S.rf⟩
  rw [ha, lg_entry_eq]
  have hl := lv_entry ([.ref (ad g 21 0), .int x1, .int x2] : List Value) (n := 4) (Nat.le_of_ble_eq_true rfl)
  generalize (lg_sl ([.ref (ad g 21 0), .int x1, .int x2] : List Value) ++ List.replicate (4 - (lg_sl ([.ref (ad g 21 0), .int x1, .int x2] : List Value)).length) Slot.unset).toArray = ls at hl ⊢
  have hl : lv_has ls 4 [(0, .ref (ad g 21 0)), (1, .int x1), (2, .int x2)] := hl
  rw [← ha]
  show W p l e rm_X6_time s m args below meth c s.heap [] 0 0 (MQ below (CI g mZ r0) args s 0 0 (gA g)) (F0 m 0 ls [])
  unfold fX6_time at hf
  refine lv_aload_n hx hb dX6_time_0 rfl (lv_at hl 0 rfl) ?_
  refine lv_iconst (v := 0) hx hb dX6_time_1 (by decide) ?_
  obtain ⟨m1, ex, hf⟩ := wth_ex hf
  refine pf_21_0 X hW (by decide) mw_947 dX6_time_2 (fun H locs hW => ?_)
  replace hW := hW.same ex
  clear ex
  refine lv_iload_n hx hb dX6_time_5 rfl (lv_at hl 1 rfl) ?_
  obtain ⟨r3, e2, hf⟩ := bnd_ex hf
  refine k_i X hW (k_S (As := [.int x1]) (rest := []) X hW hml hl.1 (c_X6_isSlot l g hDW  _ m1 _ e2) ⟨mw_1013, kw_X6_isSlot⟩ ⟨⟨rfl, rfl⟩, ko_X6_isSlot, ⟨Nat.le_of_ble_eq_true rfl, Nat.le_of_ble_eq_true rfl⟩⟩ rfl rfl (Nat.le_of_ble_eq_true rfl) dX6_time_6 ⟨Nat.le_of_ble_eq_true rfl, Nat.le_of_ble_eq_true rfl⟩) (fun H locs hW => ?_)
  refine lv_if_ne (tgt := 18) hx hb dX6_time_9 (by decide) (fun c26 => ?_) (fun c26 => ?_)
  · replace hf := ite_f hf c26
    refine lv_iload_n hx hb dX6_time_18 rfl (lv_at hl 2 rfl) ?_
    refine lv_iconst (v := 0) hx hb dX6_time_19 (by decide) ?_
    refine lv_bipush (v := 20) hx hb dX6_time_20 (by decide) ?_
    obtain ⟨r6, e5, hf⟩ := bnd_ex hf
    refine k_i X hW (k_S (As := [.int x2, .int 0, .int 20]) (rest := []) X hW hml hl.1 (c_X6_in l g hDW  _ _ _ m1 _ e5) ⟨mw_1016, kw_X6_in⟩ ⟨⟨rfl, rfl⟩, ko_X6_in, ⟨Nat.le_of_ble_eq_true rfl, Nat.le_of_ble_eq_true rfl⟩⟩ rfl rfl (Nat.le_of_ble_eq_true rfl) dX6_time_22 ⟨Nat.le_of_ble_eq_true rfl, Nat.le_of_ble_eq_true rfl⟩) (fun H locs hW => ?_)
    refine lv_if_ne (tgt := 34) hx hb dX6_time_25 (by decide) (fun c22 => ?_) (fun c22 => ?_)
    · replace hf := ite_f hf c22
      refine lv_aload_n hx hb dX6_time_34 rfl (lv_at hl 0 rfl) ?_
      obtain ⟨m10, e8, hf⟩ := bnd_ex hf
      refine k_v X hW (k_V (As := []) (rest := []) X hW hml hl.1 (c_X6_saves l g hDW   m1 _ e8) (r_recv X hW 21 0 (by decide) (by decide) rfl rfl) ⟨mw_1023, kw_X6_saves⟩ ⟨⟨rfl, rfl⟩, ko_X6_saves, ⟨Nat.le_of_ble_eq_true rfl, Nat.le_of_ble_eq_true rfl⟩⟩ rfl rfl (Nat.le_of_ble_eq_true rfl) dX6_time_35 ⟨Nat.le_of_ble_eq_true rfl, Nat.le_of_ble_eq_true rfl⟩) (fun H locs hW => ?_)
      refine lv_aload_n hx hb dX6_time_38 rfl (lv_at hl 0 rfl) ?_
      refine lv_iload_n hx hb dX6_time_39 rfl (lv_at hl 1 rfl) ?_
      refine lv_iconst (v := 2) hx hb dX6_time_40 (by decide) ?_
      obtain ⟨r12, e11, hf⟩ := bnd_ex hf
      refine k_i X hW (k_V (As := [.int x1, .int 2]) (rest := []) X hW hml hl.1 (c_X6_of l g hDW  _ _ m10 _ e11) (r_recv X hW 21 0 (by decide) (by decide) rfl rfl) ⟨mw_1027, kw_X6_of⟩ ⟨⟨rfl, rfl⟩, ko_X6_of, ⟨Nat.le_of_ble_eq_true rfl, Nat.le_of_ble_eq_true rfl⟩⟩ rfl rfl (Nat.le_of_ble_eq_true rfl) dX6_time_41 ⟨Nat.le_of_ble_eq_true rfl, Nat.le_of_ble_eq_true rfl⟩) (fun H locs hW => ?_)
      refine lv_istore_n (lv' := [(3, .int r12), (0, .ref (ad g 21 0)), (1, .int x1), (2, .int x2)]) hx hb dX6_time_44 rfl hl (by decide) rfl (fun ls hl => ?_)
      refine lv_aload_n hx hb dX6_time_45 rfl (lv_at hl 1 rfl) ?_
      refine lv_iload_n hx hb dX6_time_46 rfl (lv_at hl 2 rfl) ?_
      refine lv_iconst (v := 2) hx hb dX6_time_47 (by decide) ?_
      refine lv_iload_n hx hb dX6_time_48 rfl (lv_at hl 3 rfl) ?_
      obtain ⟨m16, e14, hf⟩ := bnd_ex hf
      refine k_v X hW (k_V (As := [.int x1, .int 2, .int x2]) (rest := []) X hW hml hl.1 (c_X6_lay l g hDW  _ _ _ m10 _ e14) (r_recv X hW 21 0 (by decide) (by decide) rfl rfl) ⟨mw_943, kw_X6_lay⟩ ⟨⟨rfl, rfl⟩, ko_X6_lay, ⟨Nat.le_of_ble_eq_true rfl, Nat.le_of_ble_eq_true rfl⟩⟩ rfl rfl (Nat.le_of_ble_eq_true rfl) dX6_time_49 ⟨Nat.le_of_ble_eq_true rfl, Nat.le_of_ble_eq_true rfl⟩) (fun H locs hW => ?_)
      refine lv_aload_n hx hb dX6_time_52 rfl (lv_at hl 1 rfl) ?_
      refine gf_21_1 X hW (by decide) mw_948 dX6_time_53 ?_
      refine lv_bipush (v := 6) hx hb dX6_time_56 (by decide) ?_
      refine lv_iconst (v := 0) hx hb dX6_time_58 (by decide) ?_
      obtain ⟨b17, hf⟩ := chk_ex hf
      obtain ⟨m18, ex, hf⟩ := wth_ex hf
      refine r_iast X hW 22 0 (by decide) (by decide) (fun _ => rfl) b17 dX6_time_59 (fun H locs hW => ?_)
      replace hW := hW.same ex
      clear ex
      refine lv_iload_n hx hb dX6_time_60 rfl (lv_at hl 0 rfl) ?_
      obtain ⟨hf, hm⟩ := prinj hf
      replace hW := hW.same hm.symm
      exact e_i X hr hW (hf) dX6_time_61
    · replace hf := ite_t hf c22
      refine lv_aload_n hx hb dX6_time_28 rfl (lv_at hl 0 rfl) ?_
      refine lv_iconst (v := 2) hx hb dX6_time_29 (by decide) ?_
      obtain ⟨r20, m21, e19, hf⟩ := bn2_ex hf
      refine k_i X hW (k_V (As := [.int 2]) (rest := []) X hW hml hl.1 (c_X6_fails l g hDW  _ m1 _ _ e19) (r_recv X hW 21 0 (by decide) (by decide) rfl rfl) ⟨mw_1019, kw_X6_fails⟩ ⟨⟨rfl, rfl⟩, ko_X6_fails, ⟨Nat.le_of_ble_eq_true rfl, Nat.le_of_ble_eq_true rfl⟩⟩ rfl rfl (Nat.le_of_ble_eq_true rfl) dX6_time_30 ⟨Nat.le_of_ble_eq_true rfl, Nat.le_of_ble_eq_true rfl⟩) (fun H locs hW => ?_)
      obtain ⟨hf, hm⟩ := prinj hf
      replace hW := hW.same hm.symm
      exact e_i X hr hW (hf) dX6_time_33
  · replace hf := ite_t hf c26
    refine lv_aload_n hx hb dX6_time_12 rfl (lv_at hl 0 rfl) ?_
    refine lv_iconst (v := 1) hx hb dX6_time_13 (by decide) ?_
    obtain ⟨r24, m25, e23, hf⟩ := bn2_ex hf
    refine k_i X hW (k_V (As := [.int 1]) (rest := []) X hW hml hl.1 (c_X6_fails l g hDW  _ m1 _ _ e23) (r_recv X hW 21 0 (by decide) (by decide) rfl rfl) ⟨mw_1019, kw_X6_fails⟩ ⟨⟨rfl, rfl⟩, ko_X6_fails, ⟨Nat.le_of_ble_eq_true rfl, Nat.le_of_ble_eq_true rfl⟩⟩ rfl rfl (Nat.le_of_ble_eq_true rfl) dX6_time_14 ⟨Nat.le_of_ble_eq_true rfl, Nat.le_of_ble_eq_true rfl⟩) (fun H locs hW => ?_)
    obtain ⟨hf, hm⟩ := prinj hf
    replace hW := hW.same hm.symm
    exact e_i X hr hW (hf) dX6_time_17
set_option maxRecDepth 100000 in
set_option maxHeartbeats 4000000 in
theorem c_X6_workingSlots (l : Launch) (g : gG) (hDW : DW g) (mm : gM) (r0 : Int32) (hf : fX6_workingSlots mm = some r0) : Met l yX6_workingSlots (Cond.code yX6_workingSlots cX6_workingSlots 3 (some .int) :: ALLW) rm_X6_workingSlots (CPre g mm [.ref (ad g 21 0)]) (CI g mm r0) 0 0 (gA g) := by
  refine Met.ofW (cc := cX6_workingSlots) (maxL := 3) (ret := (some .int)) (by decide) rfl ?_
  intro p e s m args below meth c s₁ B hml hv
  obtain ⟨ha, hFx, hP0, hlo⟩ := hv
  have X : Cx g p s m args c meth RX6 cX6_workingSlots := Cx_of hDW hFx hlo B
  have hx := X.1
  have hb := X.2.1
  have hr := B.returns
  have hlocks := X.2.2.2.2.2.2.2
  have hW : Wd g mm s s.heap [] := ⟨hP0, va_S.rf⟩
  rw [ha, lg_entry_eq]
  have hl := lv_entry ([.ref (ad g 21 0)] : List Value) (n := 3) (Nat.le_of_ble_eq_true rfl)
  generalize (lg_sl ([.ref (ad g 21 0)] : List Value) ++ List.replicate (3 - (lg_sl ([.ref (ad g 21 0)] : List Value)).length) Slot.unset).toArray = ls at hl ⊢
  have hl : lv_has ls 3 [(0, .ref (ad g 21 0))] := hl
  rw [← ha]
  show W p l e rm_X6_workingSlots s m args below meth c s.heap [] 0 0 (MQ below (CI g mm r0) args s 0 0 (gA g)) (F0 m 0 ls [])
  have P_4 : ∀ (n4 : Nat) (x1 : Int32) (x2 : Int32) (H : Heap) (locs : List Loc) (ls : Array Slot), Wd g mm s H locs → lv_has ls 3 [(0, .ref (ad g 21 0)), (1, .int x1), (2, .int x2)] → lX6_workingSlots_4 mm n4 x1 x2 = some r0 → W p l e rm_X6_workingSlots s m args below meth c H locs 0 0 (MQ below (CI g mm r0) args s 0 0 (gA g)) (F0 m 4 ls []) := by
    intro n4
    induction n4 with
    | zero => intro x1 x2 H locs ls hW hl hf; exact (no_some hf).elim
    | succ n4 ih_4 =>
      have P_24 : ∀ (x2 : Int32) (s0 : Int32) (s1 : Int32) (H : Heap) (locs : List Loc) (ls : Array Slot), Wd g mm s H locs → lv_has ls 3 [(0, .ref (ad g 21 0)), (2, .int x2)] → jX6_workingSlots_24 (lX6_workingSlots_4 mm n4) mm x2 s0 s1 = some r0 → W p l e rm_X6_workingSlots s m args below meth c H locs 0 0 (MQ below (CI g mm r0) args s 0 0 (gA g)) (F0 m 24 ls [.int s1, .int s0]) := by
        intro x2 s0 s1 H locs ls hW hl hf
        unfold jX6_workingSlots_24 at hf
        refine lv_iadd hx hb dX6_workingSlots_24 ?_
        refine lv_istore_n (lv' := [(1, .int (s0 + s1)), (0, .ref (ad g 21 0)), (2, .int x2)]) hx hb dX6_workingSlots_25 rfl hl (by decide) rfl (fun ls hl => ?_)
        refine lv_iinc (v := x2 + 1) (lv' := [(2, .int (x2 + 1)), (1, .int (s0 + s1)), (0, .ref (ad g 21 0))]) hx hb dX6_workingSlots_26 hl (k := 2) rfl rfl (by decide) rfl (fun ls hl => ?_)
        refine lv_goto (tgt := 4) hx hb dX6_workingSlots_29 (by decide) ?_
        exact ih_4 _ _ _ _ _ hW (lv_sub hl [2, 1, 0] rfl) hf
      intro x1 x2 H locs ls hW hl hf
      rw [lX6_workingSlots_4_s] at hf
      refine lv_iload_n hx hb dX6_workingSlots_4 rfl (lv_at hl 2 rfl) ?_
      refine lv_bipush (v := 6) hx hb dX6_workingSlots_5 (by decide) ?_
      refine lv_icmp_ge (tgt := 32) hx hb dX6_workingSlots_7 (by decide) (fun c5 => ?_) (fun c5 => ?_)
      · replace hf := ite_t hf c5
        refine lv_iload_n hx hb dX6_workingSlots_32 rfl (lv_at hl 1 rfl) ?_
        exact e_i X hr hW (someinj hf) dX6_workingSlots_33
      · replace hf := ite_f hf c5
        refine lv_iload_n hx hb dX6_workingSlots_10 rfl (lv_at hl 1 rfl) ?_
        refine lv_aload_n hx hb dX6_workingSlots_11 rfl (lv_at hl 0 rfl) ?_
        refine lv_iload_n hx hb dX6_workingSlots_12 rfl (lv_at hl 2 rfl) ?_
        obtain ⟨r2, e1, hf⟩ := bnd_ex hf
        refine k_i X hW (k_V (As := [.int x2]) (rest := [.int x1]) X hW hml hl.1 (c_X6_works l g hDW  _ mm _ e1) (r_recv X hW 21 0 (by decide) (by decide) rfl rfl) ⟨mw_1058, kw_X6_works⟩ ⟨⟨rfl, rfl⟩, ko_X6_works, ⟨Nat.le_of_ble_eq_true rfl, Nat.le_of_ble_eq_true rfl⟩⟩ rfl rfl (Nat.le_of_ble_eq_true rfl) dX6_workingSlots_13 ⟨Nat.le_of_ble_eq_true rfl, Nat.le_of_ble_eq_true rfl⟩) (fun H locs hW => ?_)
        refine lv_if_eq (tgt := 23) hx hb dX6_workingSlots_16 (by decide) (fun c4 => ?_) (fun c4 => ?_)
        · replace hf := ite_t hf c4
          refine lv_iconst (v := 0) hx hb dX6_workingSlots_23 (by decide) ?_
          exact P_24 _ _ _ _ _ _ hW (lv_sub hl [0, 2] rfl) hf
        · replace hf := ite_f hf c4
          refine lv_iconst (v := 1) hx hb dX6_workingSlots_19 (by decide) ?_
          refine lv_goto (tgt := 24) hx hb dX6_workingSlots_20 (by decide) ?_
          exact P_24 _ _ _ _ _ _ hW (lv_sub hl [0, 2] rfl) hf
  unfold fX6_workingSlots at hf
  refine lv_iconst (v := 0) hx hb dX6_workingSlots_0 (by decide) ?_
  refine lv_istore_n (lv' := [(1, .int 0), (0, .ref (ad g 21 0))]) hx hb dX6_workingSlots_1 rfl hl (by decide) rfl (fun ls hl => ?_)
  refine lv_iconst (v := 0) hx hb dX6_workingSlots_2 (by decide) ?_
  refine lv_istore_n (lv' := [(2, .int 0), (1, .int 0), (0, .ref (ad g 21 0))]) hx hb dX6_workingSlots_3 rfl hl (by decide) rfl (fun ls hl => ?_)
  exact P_4 _ _ _ _ _ _ hW (lv_sub hl [2, 1, 0] rfl) hf
set_option maxRecDepth 100000 in
set_option maxHeartbeats 4000000 in
theorem c_X6_neediest (l : Launch) (g : gG) (hDW : DW g) (mm : gM) (r0 : Int32) (hf : fX6_neediest mm = some r0) : Met l yX6_neediest (Cond.code yX6_neediest cX6_neediest 5 (some .int) :: ALLW) rm_X6_neediest (CPre g mm [.ref (ad g 21 0)]) (CI g mm r0) 0 0 (gA g) := by
  refine Met.ofW (cc := cX6_neediest) (maxL := 5) (ret := (some .int)) (by decide) rfl ?_
  intro p e s m args below meth c s₁ B hml hv
  obtain ⟨ha, hFx, hP0, hlo⟩ := hv
  have X : Cx g p s m args c meth RX6 cX6_neediest := Cx_of hDW hFx hlo B
  have hx := X.1
  have hb := X.2.1
  have hr := B.returns
  have hlocks := X.2.2.2.2.2.2.2
  have hW : Wd g mm s s.heap [] := ⟨hP0, va_S.rf⟩
  rw [ha, lg_entry_eq]
  have hl := lv_entry ([.ref (ad g 21 0)] : List Value) (n := 5) (Nat.le_of_ble_eq_true rfl)
  generalize (lg_sl ([.ref (ad g 21 0)] : List Value) ++ List.replicate (5 - (lg_sl ([.ref (ad g 21 0)] : List Value)).length) Slot.unset).toArray = ls at hl ⊢
  have hl : lv_has ls 5 [(0, .ref (ad g 21 0))] := hl
  rw [← ha]
  show W p l e rm_X6_neediest s m args below meth c s.heap [] 0 0 (MQ below (CI g mm r0) args s 0 0 (gA g)) (F0 m 0 ls [])
  have P_4 : ∀ (n4 : Nat) (x1 : Int32) (x2 : Int32) (H : Heap) (locs : List Loc) (ls : Array Slot), Wd g mm s H locs → lv_has ls 5 [(0, .ref (ad g 21 0)), (1, .int x1), (2, .int x2)] → lX6_neediest_4 mm n4 x1 x2 = some r0 → W p l e rm_X6_neediest s m args below meth c H locs 0 0 (MQ below (CI g mm r0) args s 0 0 (gA g)) (F0 m 4 ls []) := by
    intro n4
    induction n4 with
    | zero => intro x1 x2 H locs ls hW hl hf; exact (no_some hf).elim
    | succ n4 ih_4 =>
      have P_95 : ∀ (x2 : Int32) (s0 : Int32) (H : Heap) (locs : List Loc) (ls : Array Slot), Wd g mm s H locs → lv_has ls 5 [(0, .ref (ad g 21 0)), (2, .int x2)] → jX6_neediest_95 (lX6_neediest_4 mm n4) mm x2 s0 = some r0 → W p l e rm_X6_neediest s m args below meth c H locs 0 0 (MQ below (CI g mm r0) args s 0 0 (gA g)) (F0 m 95 ls [.int s0]) := by
        intro x2 s0 H locs ls hW hl hf
        unfold jX6_neediest_95 at hf
        refine lv_istore_n (lv' := [(1, .int s0), (0, .ref (ad g 21 0)), (2, .int x2)]) hx hb dX6_neediest_95 rfl hl (by decide) rfl (fun ls hl => ?_)
        refine lv_iinc (v := x2 + 1) (lv' := [(2, .int (x2 + 1)), (1, .int s0), (0, .ref (ad g 21 0))]) hx hb dX6_neediest_96 hl (k := 2) rfl rfl (by decide) rfl (fun ls hl => ?_)
        refine lv_goto (tgt := 4) hx hb dX6_neediest_99 (by decide) ?_
        exact ih_4 _ _ _ _ _ hW (lv_sub hl [2, 1, 0] rfl) hf
      have P_83 : ∀ (x1 : Int32) (x2 : Int32) (s0 : Int32) (H : Heap) (locs : List Loc) (ls : Array Slot), Wd g mm s H locs → lv_has ls 5 [(0, .ref (ad g 21 0)), (1, .int x1), (2, .int x2)] → jX6_neediest_83 (lX6_neediest_4 mm n4) mm x1 x2 s0 = some r0 → W p l e rm_X6_neediest s m args below meth c H locs 0 0 (MQ below (CI g mm r0) args s 0 0 (gA g)) (F0 m 83 ls [.int s0]) := by
        intro x1 x2 s0 H locs ls hW hl hf
        unfold jX6_neediest_83 at hf
        refine lv_istore (lv' := [(4, .int s0), (0, .ref (ad g 21 0)), (1, .int x1), (2, .int x2)]) hx hb dX6_neediest_83 hl (by decide) rfl (fun ls hl => ?_)
        refine lv_iload hx hb dX6_neediest_85 (lv_at hl 0 rfl) ?_
        refine lv_if_eq (tgt := 94) hx hb dX6_neediest_87 (by decide) (fun c23 => ?_) (fun c23 => ?_)
        · replace hf := ite_t hf c23
          refine lv_iload_n hx hb dX6_neediest_94 rfl (lv_at hl 2 rfl) ?_
          exact P_95 _ _ _ _ _ hW (lv_sub hl [1, 3] rfl) hf
        · replace hf := ite_f hf c23
          refine lv_iload_n hx hb dX6_neediest_90 rfl (lv_at hl 3 rfl) ?_
          refine lv_goto (tgt := 95) hx hb dX6_neediest_91 (by decide) ?_
          exact P_95 _ _ _ _ _ hW (lv_sub hl [1, 3] rfl) hf
      have P_82 : ∀ (x1 : Int32) (x2 : Int32) (H : Heap) (locs : List Loc) (ls : Array Slot), Wd g mm s H locs → lv_has ls 5 [(0, .ref (ad g 21 0)), (1, .int x1), (2, .int x2)] → jX6_neediest_82 (lX6_neediest_4 mm n4) mm x1 x2 = some r0 → W p l e rm_X6_neediest s m args below meth c H locs 0 0 (MQ below (CI g mm r0) args s 0 0 (gA g)) (F0 m 82 ls []) := by
        intro x1 x2 H locs ls hW hl hf
        unfold jX6_neediest_82 at hf
        refine lv_iconst (v := 0) hx hb dX6_neediest_82 (by decide) ?_
        exact P_83 _ _ _ _ _ _ hW (lv_sub hl [0, 1, 2] rfl) hf
      have P_78 : ∀ (x1 : Int32) (x2 : Int32) (H : Heap) (locs : List Loc) (ls : Array Slot), Wd g mm s H locs → lv_has ls 5 [(0, .ref (ad g 21 0)), (1, .int x1), (2, .int x2)] → jX6_neediest_78 (lX6_neediest_4 mm n4) mm x1 x2 = some r0 → W p l e rm_X6_neediest s m args below meth c H locs 0 0 (MQ below (CI g mm r0) args s 0 0 (gA g)) (F0 m 78 ls []) := by
        intro x1 x2 H locs ls hW hl hf
        unfold jX6_neediest_78 at hf
        refine lv_iconst (v := 1) hx hb dX6_neediest_78 (by decide) ?_
        refine lv_goto (tgt := 83) hx hb dX6_neediest_79 (by decide) ?_
        exact P_83 _ _ _ _ _ _ hW (lv_sub hl [0, 1, 2] rfl) hf
      have P_35 : ∀ (x1 : Int32) (x2 : Int32) (s0 : Int32) (H : Heap) (locs : List Loc) (ls : Array Slot), Wd g mm s H locs → lv_has ls 5 [(0, .ref (ad g 21 0)), (1, .int x1), (2, .int x2)] → jX6_neediest_35 (lX6_neediest_4 mm n4) mm x1 x2 s0 = some r0 → W p l e rm_X6_neediest s m args below meth c H locs 0 0 (MQ below (CI g mm r0) args s 0 0 (gA g)) (F0 m 35 ls [.int s0]) := by
        intro x1 x2 s0 H locs ls hW hl hf
        unfold jX6_neediest_35 at hf
        refine lv_istore_n (lv' := [(3, .int s0), (0, .ref (ad g 21 0)), (1, .int x1), (2, .int x2)]) hx hb dX6_neediest_35 rfl hl (by decide) rfl (fun ls hl => ?_)
        refine lv_iload_n hx hb dX6_neediest_36 rfl (lv_at hl 0 rfl) ?_
        refine lv_if_eq (tgt := 82) hx hb dX6_neediest_37 (by decide) (fun c22 => ?_) (fun c22 => ?_)
        · replace hf := ite_t hf c22
          exact P_82 _ _ _ _ _ hW (lv_sub hl [1, 2, 3] rfl) hf
        · replace hf := ite_f hf c22
          refine lv_iload_n hx hb dX6_neediest_40 rfl (lv_at hl 2 rfl) ?_
          refine lv_iconst (v := -1) hx hb dX6_neediest_41 (by decide) ?_
          refine lv_icmp_eq (tgt := 78) hx hb dX6_neediest_42 (by decide) (fun c21 => ?_) (fun c21 => ?_)
          · replace hf := ite_t hf c21
            exact P_78 _ _ _ _ _ hW (lv_sub hl [1, 2, 3] rfl) hf
          · replace hf := ite_f hf c21
            refine lv_aload_n hx hb dX6_neediest_45 rfl (lv_at hl 1 rfl) ?_
            refine gf_21_17 X hW (by decide) mw_964 dX6_neediest_46 ?_
            refine lv_iload_n hx hb dX6_neediest_49 rfl (lv_at hl 3 rfl) ?_
            obtain ⟨b6, hf⟩ := chk_ex hf
            refine r_iald X hW 33 0 (by decide) (by decide) rfl b6 dX6_neediest_50 ?_
            refine lv_aload_n hx hb dX6_neediest_51 rfl (lv_at hl 1 rfl) ?_
            refine lv_iload_n hx hb dX6_neediest_52 rfl (lv_at hl 2 rfl) ?_
            obtain ⟨r8, e7, hf⟩ := bnd_ex hf
            refine k_i X hW (k_V (As := [.int x1]) (rest := [.int (gi mm 33 0 x2.toNatClampNeg)]) X hW hml hl.1 (c_X6_works l g hDW  _ mm _ e7) (r_recv X hW 21 0 (by decide) (by decide) rfl rfl) ⟨mw_1058, kw_X6_works⟩ ⟨⟨rfl, rfl⟩, ko_X6_works, ⟨Nat.le_of_ble_eq_true rfl, Nat.le_of_ble_eq_true rfl⟩⟩ rfl rfl (Nat.le_of_ble_eq_true rfl) dX6_neediest_53 ⟨Nat.le_of_ble_eq_true rfl, Nat.le_of_ble_eq_true rfl⟩) (fun H locs hW => ?_)
            obtain ⟨r11, e10, hf⟩ := bnd_ex hf
            refine k_i X hW (k_S (As := [.int r8]) (rest := [.int (gi mm 33 0 x2.toNatClampNeg)]) X hW hml hl.1 (c_X6_ones l g hDW  _ mm _ e10) ⟨mw_1077, kw_X6_ones⟩ ⟨⟨rfl, rfl⟩, ko_X6_ones, ⟨Nat.le_of_ble_eq_true rfl, Nat.le_of_ble_eq_true rfl⟩⟩ rfl rfl (Nat.le_of_ble_eq_true rfl) dX6_neediest_56 ⟨Nat.le_of_ble_eq_true rfl, Nat.le_of_ble_eq_true rfl⟩) (fun H locs hW => ?_)
            refine lv_imul hx hb dX6_neediest_59 ?_
            refine lv_aload_n hx hb dX6_neediest_60 rfl (lv_at hl 1 rfl) ?_
            refine gf_21_17 X hW (by decide) mw_964 dX6_neediest_61 ?_
            refine lv_iload_n hx hb dX6_neediest_64 rfl (lv_at hl 2 rfl) ?_
            obtain ⟨b13, hf⟩ := chk_ex hf
            refine r_iald X hW 33 0 (by decide) (by decide) rfl b13 dX6_neediest_65 ?_
            refine lv_aload_n hx hb dX6_neediest_66 rfl (lv_at hl 1 rfl) ?_
            refine lv_iload_n hx hb dX6_neediest_67 rfl (lv_at hl 3 rfl) ?_
            obtain ⟨r15, e14, hf⟩ := bnd_ex hf
            refine k_i X hW (k_V (As := [.int x2]) (rest := [.int (gi mm 33 0 x1.toNatClampNeg), .int ((gi mm 33 0 x2.toNatClampNeg) * r11)]) X hW hml hl.1 (c_X6_works l g hDW  _ mm _ e14) (r_recv X hW 21 0 (by decide) (by decide) rfl rfl) ⟨mw_1058, kw_X6_works⟩ ⟨⟨rfl, rfl⟩, ko_X6_works, ⟨Nat.le_of_ble_eq_true rfl, Nat.le_of_ble_eq_true rfl⟩⟩ rfl rfl (Nat.le_of_ble_eq_true rfl) dX6_neediest_68 ⟨Nat.le_of_ble_eq_true rfl, Nat.le_of_ble_eq_true rfl⟩) (fun H locs hW => ?_)
            obtain ⟨r18, e17, hf⟩ := bnd_ex hf
            refine k_i X hW (k_S (As := [.int r15]) (rest := [.int (gi mm 33 0 x1.toNatClampNeg), .int ((gi mm 33 0 x2.toNatClampNeg) * r11)]) X hW hml hl.1 (c_X6_ones l g hDW  _ mm _ e17) ⟨mw_1077, kw_X6_ones⟩ ⟨⟨rfl, rfl⟩, ko_X6_ones, ⟨Nat.le_of_ble_eq_true rfl, Nat.le_of_ble_eq_true rfl⟩⟩ rfl rfl (Nat.le_of_ble_eq_true rfl) dX6_neediest_71 ⟨Nat.le_of_ble_eq_true rfl, Nat.le_of_ble_eq_true rfl⟩) (fun H locs hW => ?_)
            refine lv_imul hx hb dX6_neediest_74 ?_
            refine lv_icmp_ge (tgt := 82) hx hb dX6_neediest_75 (by decide) (fun c20 => ?_) (fun c20 => ?_)
            · replace hf := ite_t hf c20
              exact P_82 _ _ _ _ _ hW (lv_sub hl [1, 2, 3] rfl) hf
            · replace hf := ite_f hf c20
              exact P_78 _ _ _ _ _ hW (lv_sub hl [1, 2, 3] rfl) hf
      have P_34 : ∀ (x1 : Int32) (x2 : Int32) (H : Heap) (locs : List Loc) (ls : Array Slot), Wd g mm s H locs → lv_has ls 5 [(0, .ref (ad g 21 0)), (1, .int x1), (2, .int x2)] → jX6_neediest_34 (lX6_neediest_4 mm n4) mm x1 x2 = some r0 → W p l e rm_X6_neediest s m args below meth c H locs 0 0 (MQ below (CI g mm r0) args s 0 0 (gA g)) (F0 m 34 ls []) := by
        intro x1 x2 H locs ls hW hl hf
        unfold jX6_neediest_34 at hf
        refine lv_iconst (v := 0) hx hb dX6_neediest_34 (by decide) ?_
        exact P_35 _ _ _ _ _ _ hW (lv_sub hl [0, 1, 2] rfl) hf
      intro x1 x2 H locs ls hW hl hf
      rw [lX6_neediest_4_s] at hf
      refine lv_iload_n hx hb dX6_neediest_4 rfl (lv_at hl 2 rfl) ?_
      refine lv_bipush (v := 6) hx hb dX6_neediest_5 (by decide) ?_
      refine lv_icmp_ge (tgt := 102) hx hb dX6_neediest_7 (by decide) (fun c5 => ?_) (fun c5 => ?_)
      · replace hf := ite_t hf c5
        refine lv_iload_n hx hb dX6_neediest_102 rfl (lv_at hl 1 rfl) ?_
        exact e_i X hr hW (someinj hf) dX6_neediest_103
      · replace hf := ite_f hf c5
        refine lv_aload_n hx hb dX6_neediest_10 rfl (lv_at hl 0 rfl) ?_
        refine gf_21_17 X hW (by decide) mw_964 dX6_neediest_11 ?_
        refine lv_iload_n hx hb dX6_neediest_14 rfl (lv_at hl 2 rfl) ?_
        obtain ⟨b1, hf⟩ := chk_ex hf
        refine r_iald X hW 33 0 (by decide) (by decide) rfl b1 dX6_neediest_15 ?_
        refine lv_if_le (tgt := 34) hx hb dX6_neediest_16 (by decide) (fun c4 => ?_) (fun c4 => ?_)
        · replace hf := ite_t hf c4
          exact P_34 _ _ _ _ _ hW (lv_sub hl [0, 1, 2] rfl) hf
        · replace hf := ite_f hf c4
          refine lv_aload_n hx hb dX6_neediest_19 rfl (lv_at hl 0 rfl) ?_
          refine gf_21_17 X hW (by decide) mw_964 dX6_neediest_20 ?_
          refine lv_iload_n hx hb dX6_neediest_23 rfl (lv_at hl 2 rfl) ?_
          obtain ⟨b2, hf⟩ := chk_ex hf
          refine r_iald X hW 33 0 (by decide) (by decide) rfl b2 dX6_neediest_24 ?_
          refine lv_bipush (v := 20) hx hb dX6_neediest_25 (by decide) ?_
          refine lv_icmp_ge (tgt := 34) hx hb dX6_neediest_27 (by decide) (fun c3 => ?_) (fun c3 => ?_)
          · replace hf := ite_t hf c3
            exact P_34 _ _ _ _ _ hW (lv_sub hl [0, 1, 2] rfl) hf
          · replace hf := ite_f hf c3
            refine lv_iconst (v := 1) hx hb dX6_neediest_30 (by decide) ?_
            refine lv_goto (tgt := 35) hx hb dX6_neediest_31 (by decide) ?_
            exact P_35 _ _ _ _ _ _ hW (lv_sub hl [0, 1, 2] rfl) hf
  unfold fX6_neediest at hf
  refine lv_iconst (v := -1) hx hb dX6_neediest_0 (by decide) ?_
  refine lv_istore_n (lv' := [(1, .int (-1)), (0, .ref (ad g 21 0))]) hx hb dX6_neediest_1 rfl hl (by decide) rfl (fun ls hl => ?_)
  refine lv_iconst (v := 0) hx hb dX6_neediest_2 (by decide) ?_
  refine lv_istore_n (lv' := [(2, .int 0), (1, .int (-1)), (0, .ref (ad g 21 0))]) hx hb dX6_neediest_3 rfl hl (by decide) rfl (fun ls hl => ?_)
  exact P_4 _ _ _ _ _ _ hW (lv_sub hl [2, 1, 0] rfl) hf
set_option maxRecDepth 100000 in
set_option maxHeartbeats 4000000 in
theorem c_X6_gives (l : Launch) (g : gG) (hDW : DW g) (x1 : Int32) (mm : gM) (r0 : Int32) (mZ : gM) (hf : fX6_gives x1 mm = some (r0, mZ)) : Met l yX6_gives (Cond.code yX6_gives cX6_gives 4 (some .int) :: ALLW) rm_X6_gives (CPre g mm [.ref (ad g 21 0), .int x1]) (CI g mZ r0) 0 0 (gA g) := by
  refine Met.ofW (cc := cX6_gives) (maxL := 4) (ret := (some .int)) (by decide) rfl ?_
  intro p e s m args below meth c s₁ B hml hv
  obtain ⟨ha, hFx, hP0, hlo⟩ := hv
  have X : Cx g p s m args c meth RX6 cX6_gives := Cx_of hDW hFx hlo B
  have hx := X.1
  have hb := X.2.1
  have hr := B.returns
  have hlocks := X.2.2.2.2.2.2.2
  have hW : Wd g mm s s.heap [] := ⟨hP0, va_S.rf⟩
  rw [ha, lg_entry_eq]
  have hl := lv_entry ([.ref (ad g 21 0), .int x1] : List Value) (n := 4) (Nat.le_of_ble_eq_true rfl)
  generalize (lg_sl ([.ref (ad g 21 0), .int x1] : List Value) ++ List.replicate (4 - (lg_sl ([.ref (ad g 21 0), .int x1] : List Value)).length) Slot.unset).toArray = ls at hl ⊢
  have hl : lv_has ls 4 [(0, .ref (ad g 21 0)), (1, .int x1)] := hl
  rw [← ha]
  show W p l e rm_X6_gives s m args below meth c s.heap [] 0 0 (MQ below (CI g mZ r0) args s 0 0 (gA g)) (F0 m 0 ls [])
  have P_80 : ∀ (x2 : Int32) (mm : gM) (H : Heap) (locs : List Loc) (ls : Array Slot), Wd g mm s H locs → lv_has ls 4 [(2, .int x2)] → jX6_gives_80 x2 mm = some (r0, mZ) → W p l e rm_X6_gives s m args below meth c H locs 0 0 (MQ below (CI g mZ r0) args s 0 0 (gA g)) (F0 m 80 ls []) := by
    intro x2 mm H locs ls hW hl hf
    unfold jX6_gives_80 at hf
    refine lv_iload_n hx hb dX6_gives_80 rfl (lv_at hl 0 rfl) ?_
    obtain ⟨hf, hm⟩ := prinj hf
    replace hW := hW.same hm.symm
    exact e_i X hr hW (hf) dX6_gives_81
  have P_49 : ∀ (n49 : Nat) (x1 : Int32) (x2 : Int32) (x3 : Int32) (mm : gM) (H : Heap) (locs : List Loc) (ls : Array Slot), Wd g mm s H locs → lv_has ls 4 [(0, .ref (ad g 21 0)), (1, .int x1), (2, .int x2), (3, .int x3)] → lX6_gives_49 n49 x1 x2 x3 mm = some (r0, mZ) → W p l e rm_X6_gives s m args below meth c H locs 0 0 (MQ below (CI g mZ r0) args s 0 0 (gA g)) (F0 m 49 ls []) := by
    intro n49
    induction n49 with
    | zero => intro x1 x2 x3 mm H locs ls hW hl hf; exact (no_some hf).elim
    | succ n49 ih_49 =>
      intro x1 x2 x3 mm H locs ls hW hl hf
      rw [lX6_gives_49_s] at hf
      refine lv_iload_n hx hb dX6_gives_49 rfl (lv_at hl 2 rfl) ?_
      refine lv_iload_n hx hb dX6_gives_50 rfl (lv_at hl 1 rfl) ?_
      refine lv_icmp_ge (tgt := 80) hx hb dX6_gives_51 (by decide) (fun c20 => ?_) (fun c20 => ?_)
      · replace hf := ite_t hf c20
        exact P_80 _ _ _ _ _ hW (lv_sub hl [2] rfl) hf
      · replace hf := ite_f hf c20
        refine lv_iload_n hx hb dX6_gives_54 rfl (lv_at hl 3 rfl) ?_
        refine lv_iconst (v := -1) hx hb dX6_gives_55 (by decide) ?_
        refine lv_icmp_eq (tgt := 80) hx hb dX6_gives_56 (by decide) (fun c19 => ?_) (fun c19 => ?_)
        · replace hf := ite_t hf c19
          exact P_80 _ _ _ _ _ hW (lv_sub hl [2] rfl) hf
        · replace hf := ite_f hf c19
          refine lv_aload_n hx hb dX6_gives_59 rfl (lv_at hl 0 rfl) ?_
          refine gf_21_17 X hW (by decide) mw_964 dX6_gives_60 ?_
          refine lv_iload_n hx hb dX6_gives_63 rfl (lv_at hl 3 rfl) ?_
          refine lv_dup2_11 hx hb dX6_gives_64 rfl rfl ?_
          obtain ⟨b13, hf⟩ := chk_ex hf
          refine r_iald X hW 33 0 (by decide) (by decide) rfl b13 dX6_gives_65 ?_
          refine lv_iconst (v := 1) hx hb dX6_gives_66 (by decide) ?_
          refine lv_iadd hx hb dX6_gives_67 ?_
          obtain ⟨b14, hf⟩ := chk_ex hf
          obtain ⟨m15, ex, hf⟩ := wth_ex hf
          refine r_iast X hW 33 0 (by decide) (by decide) (fun _ => rfl) b14 dX6_gives_68 (fun H locs hW => ?_)
          replace hW := hW.same ex
          clear ex
          refine lv_iinc (v := x2 + 1) (lv' := [(2, .int (x2 + 1)), (0, .ref (ad g 21 0)), (1, .int x1), (3, .int x3)]) hx hb dX6_gives_69 hl (k := 2) rfl rfl (by decide) rfl (fun ls hl => ?_)
          refine lv_aload_n hx hb dX6_gives_72 rfl (lv_at hl 1 rfl) ?_
          obtain ⟨r17, e16, hf⟩ := bnd_ex hf
          refine k_i X hW (k_V (As := []) (rest := []) X hW hml hl.1 (c_X6_neediest l g hDW   m15 _ e16) (r_recv X hW 21 0 (by decide) (by decide) rfl rfl) ⟨mw_1073, kw_X6_neediest⟩ ⟨⟨rfl, rfl⟩, ko_X6_neediest, ⟨Nat.le_of_ble_eq_true rfl, Nat.le_of_ble_eq_true rfl⟩⟩ rfl rfl (Nat.le_of_ble_eq_true rfl) dX6_gives_73 ⟨Nat.le_of_ble_eq_true rfl, Nat.le_of_ble_eq_true rfl⟩) (fun H locs hW => ?_)
          refine lv_istore_n (lv' := [(3, .int r17), (2, .int (x2 + 1)), (0, .ref (ad g 21 0)), (1, .int x1)]) hx hb dX6_gives_76 rfl hl (by decide) rfl (fun ls hl => ?_)
          refine lv_goto (tgt := 49) hx hb dX6_gives_77 (by decide) ?_
          exact ih_49 _ _ _ _ _ _ _ hW (lv_sub hl [2, 3, 1, 0] rfl) hf
  have P_44 : ∀ (x1 : Int32) (x2 : Int32) (mm : gM) (H : Heap) (locs : List Loc) (ls : Array Slot), Wd g mm s H locs → lv_has ls 4 [(0, .ref (ad g 21 0)), (1, .int x1), (2, .int x2)] → jX6_gives_44 x1 x2 mm = some (r0, mZ) → W p l e rm_X6_gives s m args below meth c H locs 0 0 (MQ below (CI g mZ r0) args s 0 0 (gA g)) (F0 m 44 ls []) := by
    intro x1 x2 mm H locs ls hW hl hf
    unfold jX6_gives_44 at hf
    refine lv_aload_n hx hb dX6_gives_44 rfl (lv_at hl 0 rfl) ?_
    obtain ⟨r7, e6, hf⟩ := bnd_ex hf
    refine k_i X hW (k_V (As := []) (rest := []) X hW hml hl.1 (c_X6_neediest l g hDW   mm _ e6) (r_recv X hW 21 0 (by decide) (by decide) rfl rfl) ⟨mw_1073, kw_X6_neediest⟩ ⟨⟨rfl, rfl⟩, ko_X6_neediest, ⟨Nat.le_of_ble_eq_true rfl, Nat.le_of_ble_eq_true rfl⟩⟩ rfl rfl (Nat.le_of_ble_eq_true rfl) dX6_gives_45 ⟨Nat.le_of_ble_eq_true rfl, Nat.le_of_ble_eq_true rfl⟩) (fun H locs hW => ?_)
    refine lv_istore_n (lv' := [(3, .int r7), (0, .ref (ad g 21 0)), (1, .int x1), (2, .int x2)]) hx hb dX6_gives_48 rfl hl (by decide) rfl (fun ls hl => ?_)
    exact P_49 _ _ _ _ _ _ _ _ hW (lv_sub hl [1, 2, 3, 0] rfl) hf
  have P_4 : ∀ (n4 : Nat) (x1 : Int32) (x2 : Int32) (x3 : Int32) (mm : gM) (H : Heap) (locs : List Loc) (ls : Array Slot), Wd g mm s H locs → lv_has ls 4 [(0, .ref (ad g 21 0)), (1, .int x1), (2, .int x2), (3, .int x3)] → lX6_gives_4 n4 x1 x2 x3 mm = some (r0, mZ) → W p l e rm_X6_gives s m args below meth c H locs 0 0 (MQ below (CI g mZ r0) args s 0 0 (gA g)) (F0 m 4 ls []) := by
    intro n4
    induction n4 with
    | zero => intro x1 x2 x3 mm H locs ls hW hl hf; exact (no_some hf).elim
    | succ n4 ih_4 =>
      have P_28 : ∀ (x1 : Int32) (x2 : Int32) (x3 : Int32) (s1 : Int32) (s2 : Int32) (mm : gM) (H : Heap) (locs : List Loc) (ls : Array Slot), Wd g mm s H locs → lv_has ls 4 [(0, .ref (ad g 21 0)), (1, .int x1), (2, .int x2), (3, .int x3)] → jX6_gives_28 (lX6_gives_4 n4) x1 x2 x3 s1 s2 mm = some (r0, mZ) → W p l e rm_X6_gives s m args below meth c H locs 0 0 (MQ below (CI g mZ r0) args s 0 0 (gA g)) (F0 m 28 ls [.int s2, .int s1, .ref (ad g 33 0)]) := by
        intro x1 x2 x3 s1 s2 mm H locs ls hW hl hf
        unfold jX6_gives_28 at hf
        obtain ⟨b9, hf⟩ := chk_ex hf
        obtain ⟨m10, ex, hf⟩ := wth_ex hf
        refine r_iast X hW 33 0 (by decide) (by decide) (fun _ => rfl) b9 dX6_gives_28 (fun H locs hW => ?_)
        replace hW := hW.same ex
        clear ex
        refine lv_iload_n hx hb dX6_gives_29 rfl (lv_at hl 2 rfl) ?_
        refine lv_aload_n hx hb dX6_gives_30 rfl (lv_at hl 0 rfl) ?_
        refine gf_21_17 X hW (by decide) mw_964 dX6_gives_31 ?_
        refine lv_iload_n hx hb dX6_gives_34 rfl (lv_at hl 3 rfl) ?_
        obtain ⟨b11, hf⟩ := chk_ex hf
        refine r_iald X hW 33 0 (by decide) (by decide) rfl b11 dX6_gives_35 ?_
        refine lv_iadd hx hb dX6_gives_36 ?_
        obtain ⟨v12, ex, hf⟩ := wth_ex hf
        refine lv_nm ex ?_
        clear ex
        refine lv_istore_n (lv' := [(2, .int v12), (0, .ref (ad g 21 0)), (1, .int x1), (3, .int x3)]) hx hb dX6_gives_37 rfl hl (by decide) rfl (fun ls hl => ?_)
        refine lv_iinc (v := x3 + 1) (lv' := [(3, .int (x3 + 1)), (2, .int v12), (0, .ref (ad g 21 0)), (1, .int x1)]) hx hb dX6_gives_38 hl (k := 3) rfl rfl (by decide) rfl (fun ls hl => ?_)
        refine lv_goto (tgt := 4) hx hb dX6_gives_41 (by decide) ?_
        exact ih_4 _ _ _ _ _ _ _ hW (lv_sub hl [2, 3, 1, 0] rfl) hf
      intro x1 x2 x3 mm H locs ls hW hl hf
      rw [lX6_gives_4_s] at hf
      refine lv_iload_n hx hb dX6_gives_4 rfl (lv_at hl 3 rfl) ?_
      refine lv_bipush (v := 6) hx hb dX6_gives_5 (by decide) ?_
      refine lv_icmp_ge (tgt := 44) hx hb dX6_gives_7 (by decide) (fun c5 => ?_) (fun c5 => ?_)
      · replace hf := ite_t hf c5
        exact P_44 _ _ _ _ _ _ hW (lv_sub hl [0, 1, 2] rfl) hf
      · replace hf := ite_f hf c5
        refine lv_aload_n hx hb dX6_gives_10 rfl (lv_at hl 0 rfl) ?_
        refine gf_21_17 X hW (by decide) mw_964 dX6_gives_11 ?_
        refine lv_iload_n hx hb dX6_gives_14 rfl (lv_at hl 3 rfl) ?_
        refine lv_aload_n hx hb dX6_gives_15 rfl (lv_at hl 0 rfl) ?_
        refine lv_iload_n hx hb dX6_gives_16 rfl (lv_at hl 3 rfl) ?_
        obtain ⟨r2, e1, hf⟩ := bnd_ex hf
        refine k_i X hW (k_V (As := [.int x3]) (rest := [.int x3, .ref (ad g 33 0)]) X hW hml hl.1 (c_X6_works l g hDW  _ mm _ e1) (r_recv X hW 21 0 (by decide) (by decide) rfl rfl) ⟨mw_1058, kw_X6_works⟩ ⟨⟨rfl, rfl⟩, ko_X6_works, ⟨Nat.le_of_ble_eq_true rfl, Nat.le_of_ble_eq_true rfl⟩⟩ rfl rfl (Nat.le_of_ble_eq_true rfl) dX6_gives_17 ⟨Nat.le_of_ble_eq_true rfl, Nat.le_of_ble_eq_true rfl⟩) (fun H locs hW => ?_)
        refine lv_if_eq (tgt := 27) hx hb dX6_gives_20 (by decide) (fun c4 => ?_) (fun c4 => ?_)
        · replace hf := ite_t hf c4
          refine lv_iconst (v := 0) hx hb dX6_gives_27 (by decide) ?_
          exact P_28 _ _ _ _ _ _ _ _ _ hW (lv_sub hl [0, 1, 2, 3] rfl) hf
        · replace hf := ite_f hf c4
          refine lv_iconst (v := 1) hx hb dX6_gives_23 (by decide) ?_
          refine lv_goto (tgt := 28) hx hb dX6_gives_24 (by decide) ?_
          exact P_28 _ _ _ _ _ _ _ _ _ hW (lv_sub hl [0, 1, 2, 3] rfl) hf
  unfold fX6_gives at hf
  refine lv_iconst (v := 0) hx hb dX6_gives_0 (by decide) ?_
  refine lv_istore_n (lv' := [(2, .int 0), (0, .ref (ad g 21 0)), (1, .int x1)]) hx hb dX6_gives_1 rfl hl (by decide) rfl (fun ls hl => ?_)
  refine lv_iconst (v := 0) hx hb dX6_gives_2 (by decide) ?_
  refine lv_istore_n (lv' := [(3, .int 0), (2, .int 0), (0, .ref (ad g 21 0)), (1, .int x1)]) hx hb dX6_gives_3 rfl hl (by decide) rfl (fun ls hl => ?_)
  exact P_4 _ _ _ _ _ _ _ _ hW (lv_sub hl [2, 3, 1, 0] rfl) hf
set_option maxRecDepth 100000 in
set_option maxHeartbeats 4000000 in
theorem c_X6_balance (l : Launch) (g : gG) (hDW : DW g) (x1 : Int32) (mm : gM) (r0 : Int32) (mZ : gM) (hf : fX6_balance x1 mm = some (r0, mZ)) : Met l yX6_balance (Cond.code yX6_balance cX6_balance 4 (some .int) :: ALLW) rm_X6_balance (CPre g mm [.ref (ad g 21 0), .int x1]) (CI g mZ r0) 0 0 (gA g) := by
  refine Met.ofW (cc := cX6_balance) (maxL := 4) (ret := (some .int)) (by decide) rfl ?_
  intro p e s m args below meth c s₁ B hml hv
  obtain ⟨ha, hFx, hP0, hlo⟩ := hv
  have X : Cx g p s m args c meth RX6 cX6_balance := Cx_of hDW hFx hlo B
  have hx := X.1
  have hb := X.2.1
  have hr := B.returns
  have hlocks := X.2.2.2.2.2.2.2
  have hW : Wd g mm s s.heap [] := ⟨hP0, va_S.rf⟩
  rw [ha, lg_entry_eq]
  have hl := lv_entry ([.ref (ad g 21 0), .int x1] : List Value) (n := 4) (Nat.le_of_ble_eq_true rfl)
  generalize (lg_sl ([.ref (ad g 21 0), .int x1] : List Value) ++ List.replicate (4 - (lg_sl ([.ref (ad g 21 0), .int x1] : List Value)).length) Slot.unset).toArray = ls at hl ⊢
  have hl : lv_has ls 4 [(0, .ref (ad g 21 0)), (1, .int x1)] := hl
  rw [← ha]
  show W p l e rm_X6_balance s m args below meth c s.heap [] 0 0 (MQ below (CI g mZ r0) args s 0 0 (gA g)) (F0 m 0 ls [])
  have P_71 : ∀ (x2 : Int32) (mm : gM) (H : Heap) (locs : List Loc) (ls : Array Slot), Wd g mm s H locs → lv_has ls 4 [(0, .ref (ad g 21 0)), (2, .int x2)] → jX6_balance_71 x2 mm = some (r0, mZ) → W p l e rm_X6_balance s m args below meth c H locs 0 0 (MQ below (CI g mZ r0) args s 0 0 (gA g)) (F0 m 71 ls []) := by
    intro x2 mm H locs ls hW hl hf
    unfold jX6_balance_71 at hf
    refine lv_aload_n hx hb dX6_balance_71 rfl (lv_at hl 0 rfl) ?_
    refine gf_21_1 X hW (by decide) mw_948 dX6_balance_72 ?_
    refine lv_bipush (v := 6) hx hb dX6_balance_75 (by decide) ?_
    refine lv_iconst (v := 0) hx hb dX6_balance_77 (by decide) ?_
    obtain ⟨b27, hf⟩ := chk_ex hf
    obtain ⟨m28, ex, hf⟩ := wth_ex hf
    refine r_iast X hW 22 0 (by decide) (by decide) (fun _ => rfl) b27 dX6_balance_78 (fun H locs hW => ?_)
    replace hW := hW.same ex
    clear ex
    refine lv_iload_n hx hb dX6_balance_79 rfl (lv_at hl 1 rfl) ?_
    obtain ⟨hf, hm⟩ := prinj hf
    replace hW := hW.same hm.symm
    exact e_i X hr hW (hf) dX6_balance_80
  have P_47 : ∀ (n47 : Nat) (x2 : Int32) (x3 : Int32) (mm : gM) (H : Heap) (locs : List Loc) (ls : Array Slot), Wd g mm s H locs → lv_has ls 4 [(0, .ref (ad g 21 0)), (2, .int x2), (3, .int x3)] → lX6_balance_47 n47 x2 x3 mm = some (r0, mZ) → W p l e rm_X6_balance s m args below meth c H locs 0 0 (MQ below (CI g mZ r0) args s 0 0 (gA g)) (F0 m 47 ls []) := by
    intro n47
    induction n47 with
    | zero => intro x2 x3 mm H locs ls hW hl hf; exact (no_some hf).elim
    | succ n47 ih_47 =>
      intro x2 x3 mm H locs ls hW hl hf
      rw [lX6_balance_47_s] at hf
      refine lv_iload_n hx hb dX6_balance_47 rfl (lv_at hl 2 rfl) ?_
      refine lv_bipush (v := 6) hx hb dX6_balance_48 (by decide) ?_
      refine lv_icmp_ge (tgt := 71) hx hb dX6_balance_50 (by decide) (fun c26 => ?_) (fun c26 => ?_)
      · replace hf := ite_t hf c26
        exact P_71 _ _ _ _ _ hW (lv_sub hl [0, 1] rfl) hf
      · replace hf := ite_f hf c26
        refine lv_aload_n hx hb dX6_balance_53 rfl (lv_at hl 0 rfl) ?_
        refine lv_iload_n hx hb dX6_balance_54 rfl (lv_at hl 2 rfl) ?_
        refine lv_iconst (v := 2) hx hb dX6_balance_55 (by decide) ?_
        refine lv_aload_n hx hb dX6_balance_56 rfl (lv_at hl 0 rfl) ?_
        refine gf_21_17 X hW (by decide) mw_964 dX6_balance_57 ?_
        refine lv_iload_n hx hb dX6_balance_60 rfl (lv_at hl 2 rfl) ?_
        obtain ⟨b22, hf⟩ := chk_ex hf
        refine r_iald X hW 33 0 (by decide) (by decide) rfl b22 dX6_balance_61 ?_
        obtain ⟨m25, e23, hf⟩ := bnd_ex hf
        refine k_v X hW (k_V (As := [.int x3, .int 2, .int (gi mm 33 0 x3.toNatClampNeg)]) (rest := []) X hW hml hl.1 (c_X6_lay l g hDW  _ _ _ mm _ e23) (r_recv X hW 21 0 (by decide) (by decide) rfl rfl) ⟨mw_943, kw_X6_lay⟩ ⟨⟨rfl, rfl⟩, ko_X6_lay, ⟨Nat.le_of_ble_eq_true rfl, Nat.le_of_ble_eq_true rfl⟩⟩ rfl rfl (Nat.le_of_ble_eq_true rfl) dX6_balance_62 ⟨Nat.le_of_ble_eq_true rfl, Nat.le_of_ble_eq_true rfl⟩) (fun H locs hW => ?_)
        refine lv_iinc (v := x3 + 1) (lv' := [(3, .int (x3 + 1)), (0, .ref (ad g 21 0)), (2, .int x2)]) hx hb dX6_balance_65 hl (k := 2) rfl rfl (by decide) rfl (fun ls hl => ?_)
        refine lv_goto (tgt := 47) hx hb dX6_balance_68 (by decide) ?_
        exact ih_47 _ _ _ _ _ _ hW (lv_sub hl [1, 2, 0] rfl) hf
  unfold fX6_balance at hf
  refine lv_aload_n hx hb dX6_balance_0 rfl (lv_at hl 0 rfl) ?_
  refine lv_iconst (v := 0) hx hb dX6_balance_1 (by decide) ?_
  obtain ⟨m1, ex, hf⟩ := wth_ex hf
  refine pf_21_0 X hW (by decide) mw_947 dX6_balance_2 (fun H locs hW => ?_)
  replace hW := hW.same ex
  clear ex
  refine lv_iload_n hx hb dX6_balance_5 rfl (lv_at hl 1 rfl) ?_
  refine lv_bipush (v := 6) hx hb dX6_balance_6 (by decide) ?_
  refine lv_bipush (v := 60) hx hb dX6_balance_8 (by decide) ?_
  obtain ⟨r3, e2, hf⟩ := bnd_ex hf
  refine k_i X hW (k_S (As := [.int x1, .int 6, .int 60]) (rest := []) X hW hml hl.1 (c_X6_in l g hDW  _ _ _ m1 _ e2) ⟨mw_1016, kw_X6_in⟩ ⟨⟨rfl, rfl⟩, ko_X6_in, ⟨Nat.le_of_ble_eq_true rfl, Nat.le_of_ble_eq_true rfl⟩⟩ rfl rfl (Nat.le_of_ble_eq_true rfl) dX6_balance_10 ⟨Nat.le_of_ble_eq_true rfl, Nat.le_of_ble_eq_true rfl⟩) (fun H locs hW => ?_)
  refine lv_if_ne (tgt := 22) hx hb dX6_balance_13 (by decide) (fun c21 => ?_) (fun c21 => ?_)
  · replace hf := ite_f hf c21
    refine lv_aload_n hx hb dX6_balance_22 rfl (lv_at hl 0 rfl) ?_
    obtain ⟨r6, e5, hf⟩ := bnd_ex hf
    refine k_i X hW (k_V (As := []) (rest := []) X hW hml hl.1 (c_X6_workingSlots l g hDW   m1 _ e5) (r_recv X hW 21 0 (by decide) (by decide) rfl rfl) ⟨mw_1054, kw_X6_workingSlots⟩ ⟨⟨rfl, rfl⟩, ko_X6_workingSlots, ⟨Nat.le_of_ble_eq_true rfl, Nat.le_of_ble_eq_true rfl⟩⟩ rfl rfl (Nat.le_of_ble_eq_true rfl) dX6_balance_23 ⟨Nat.le_of_ble_eq_true rfl, Nat.le_of_ble_eq_true rfl⟩) (fun H locs hW => ?_)
    refine lv_if_ne (tgt := 35) hx hb dX6_balance_26 (by decide) (fun c17 => ?_) (fun c17 => ?_)
    · replace hf := ite_f hf c17
      refine lv_aload_n hx hb dX6_balance_35 rfl (lv_at hl 0 rfl) ?_
      obtain ⟨m10, e8, hf⟩ := bnd_ex hf
      refine k_v X hW (k_V (As := []) (rest := []) X hW hml hl.1 (c_X6_saves l g hDW   m1 _ e8) (r_recv X hW 21 0 (by decide) (by decide) rfl rfl) ⟨mw_1023, kw_X6_saves⟩ ⟨⟨rfl, rfl⟩, ko_X6_saves, ⟨Nat.le_of_ble_eq_true rfl, Nat.le_of_ble_eq_true rfl⟩⟩ rfl rfl (Nat.le_of_ble_eq_true rfl) dX6_balance_36 ⟨Nat.le_of_ble_eq_true rfl, Nat.le_of_ble_eq_true rfl⟩) (fun H locs hW => ?_)
      refine lv_aload_n hx hb dX6_balance_39 rfl (lv_at hl 0 rfl) ?_
      refine lv_iload_n hx hb dX6_balance_40 rfl (lv_at hl 1 rfl) ?_
      obtain ⟨r12, m13, e11, hf⟩ := bn2_ex hf
      refine k_i X hW (k_V (As := [.int x1]) (rest := []) X hW hml hl.1 (c_X6_gives l g hDW  _ m10 _ _ e11) (r_recv X hW 21 0 (by decide) (by decide) rfl rfl) ⟨mw_1069, kw_X6_gives⟩ ⟨⟨rfl, rfl⟩, ko_X6_gives, ⟨Nat.le_of_ble_eq_true rfl, Nat.le_of_ble_eq_true rfl⟩⟩ rfl rfl (Nat.le_of_ble_eq_true rfl) dX6_balance_41 ⟨Nat.le_of_ble_eq_true rfl, Nat.le_of_ble_eq_true rfl⟩) (fun H locs hW => ?_)
      refine lv_istore_n (lv' := [(2, .int r12), (0, .ref (ad g 21 0)), (1, .int x1)]) hx hb dX6_balance_44 rfl hl (by decide) rfl (fun ls hl => ?_)
      refine lv_iconst (v := 0) hx hb dX6_balance_45 (by decide) ?_
      refine lv_istore_n (lv' := [(3, .int 0), (2, .int r12), (0, .ref (ad g 21 0)), (1, .int x1)]) hx hb dX6_balance_46 rfl hl (by decide) rfl (fun ls hl => ?_)
      exact P_47 _ _ _ _ _ _ _ hW (lv_sub hl [2, 1, 0] rfl) hf
    · replace hf := ite_t hf c17
      refine lv_aload_n hx hb dX6_balance_29 rfl (lv_at hl 0 rfl) ?_
      refine lv_iconst (v := 2) hx hb dX6_balance_30 (by decide) ?_
      obtain ⟨r15, m16, e14, hf⟩ := bn2_ex hf
      refine k_i X hW (k_V (As := [.int 2]) (rest := []) X hW hml hl.1 (c_X6_fails l g hDW  _ m1 _ _ e14) (r_recv X hW 21 0 (by decide) (by decide) rfl rfl) ⟨mw_1019, kw_X6_fails⟩ ⟨⟨rfl, rfl⟩, ko_X6_fails, ⟨Nat.le_of_ble_eq_true rfl, Nat.le_of_ble_eq_true rfl⟩⟩ rfl rfl (Nat.le_of_ble_eq_true rfl) dX6_balance_31 ⟨Nat.le_of_ble_eq_true rfl, Nat.le_of_ble_eq_true rfl⟩) (fun H locs hW => ?_)
      obtain ⟨hf, hm⟩ := prinj hf
      replace hW := hW.same hm.symm
      exact e_i X hr hW (hf) dX6_balance_34
  · replace hf := ite_t hf c21
    refine lv_aload_n hx hb dX6_balance_16 rfl (lv_at hl 0 rfl) ?_
    refine lv_iconst (v := 1) hx hb dX6_balance_17 (by decide) ?_
    obtain ⟨r19, m20, e18, hf⟩ := bn2_ex hf
    refine k_i X hW (k_V (As := [.int 1]) (rest := []) X hW hml hl.1 (c_X6_fails l g hDW  _ m1 _ _ e18) (r_recv X hW 21 0 (by decide) (by decide) rfl rfl) ⟨mw_1019, kw_X6_fails⟩ ⟨⟨rfl, rfl⟩, ko_X6_fails, ⟨Nat.le_of_ble_eq_true rfl, Nat.le_of_ble_eq_true rfl⟩⟩ rfl rfl (Nat.le_of_ble_eq_true rfl) dX6_balance_18 ⟨Nat.le_of_ble_eq_true rfl, Nat.le_of_ble_eq_true rfl⟩) (fun H locs hW => ?_)
    obtain ⟨hf, hm⟩ := prinj hf
    replace hW := hW.same hm.symm
    exact e_i X hr hW (hf) dX6_balance_21
set_option maxRecDepth 100000 in
set_option maxHeartbeats 4000000 in
theorem c_X6_set (l : Launch) (g : gG) (hDW : DW g) (x1 : Int32) (x2 : Int32) (mm : gM) (r0 : Int32) (mZ : gM) (hf : fX6_set x1 x2 mm = some (r0, mZ)) : Met l yX6_set (Cond.code yX6_set cX6_set 5 (some .int) :: ALLW) rm_X6_set (CPre g mm [.ref (ad g 21 0), .int x1, .int x2]) (CI g mZ r0) 0 0 (gA g) := by
  refine Met.ofW (cc := cX6_set) (maxL := 5) (ret := (some .int)) (by decide) rfl ?_
  intro p e s m args below meth c s₁ B hml hv
  obtain ⟨ha, hFx, hP0, hlo⟩ := hv
  have X : Cx g p s m args c meth RX6 cX6_set := Cx_of hDW hFx hlo B
  have hx := X.1
  have hb := X.2.1
  have hr := B.returns
  have hlocks := X.2.2.2.2.2.2.2
  have hW : Wd g mm s s.heap [] := ⟨hP0, va_S.rf⟩
  rw [ha, lg_entry_eq]
  have hl := lv_entry ([.ref (ad g 21 0), .int x1, .int x2] : List Value) (n := 5) (Nat.le_of_ble_eq_true rfl)
  generalize (lg_sl ([.ref (ad g 21 0), .int x1, .int x2] : List Value) ++ List.replicate (5 - (lg_sl ([.ref (ad g 21 0), .int x1, .int x2] : List Value)).length) Slot.unset).toArray = ls at hl ⊢
  have hl : lv_has ls 5 [(0, .ref (ad g 21 0)), (1, .int x1), (2, .int x2)] := hl
  rw [← ha]
  show W p l e rm_X6_set s m args below meth c s.heap [] 0 0 (MQ below (CI g mZ r0) args s 0 0 (gA g)) (F0 m 0 ls [])
  have P_63 : ∀ (x1 : Int32) (x2 : Int32) (x3 : Int32) (s0 : Int32) (s1 : Int32) (mm : gM) (H : Heap) (locs : List Loc) (ls : Array Slot), Wd g mm s H locs → lv_has ls 5 [(0, .ref (ad g 21 0)), (1, .int x1), (2, .int x2), (3, .int x3)] → jX6_set_63 x1 x2 x3 s0 s1 mm = some (r0, mZ) → W p l e rm_X6_set s m args below meth c H locs 0 0 (MQ below (CI g mZ r0) args s 0 0 (gA g)) (F0 m 63 ls [.int s1, .int s0]) := by
    intro x1 x2 x3 s0 s1 mm H locs ls hW hl hf
    unfold jX6_set_63 at hf
    refine lv_iload_n hx hb dX6_set_63 rfl (lv_at hl 3 rfl) ?_
    obtain ⟨r14, e13, hf⟩ := bnd_ex hf
    refine k_i X hW (k_S (As := [.int s0, .int s1, .int x3]) (rest := []) X hW hml hl.1 (c_X6_in l g hDW  _ _ _ mm _ e13) ⟨mw_1016, kw_X6_in⟩ ⟨⟨rfl, rfl⟩, ko_X6_in, ⟨Nat.le_of_ble_eq_true rfl, Nat.le_of_ble_eq_true rfl⟩⟩ rfl rfl (Nat.le_of_ble_eq_true rfl) dX6_set_64 ⟨Nat.le_of_ble_eq_true rfl, Nat.le_of_ble_eq_true rfl⟩) (fun H locs hW => ?_)
    refine lv_if_ne (tgt := 76) hx hb dX6_set_67 (by decide) (fun c28 => ?_) (fun c28 => ?_)
    · replace hf := ite_f hf c28
      refine lv_aload_n hx hb dX6_set_76 rfl (lv_at hl 0 rfl) ?_
      obtain ⟨m18, e16, hf⟩ := bnd_ex hf
      refine k_v X hW (k_V (As := []) (rest := []) X hW hml hl.1 (c_X6_saves l g hDW   mm _ e16) (r_recv X hW 21 0 (by decide) (by decide) rfl rfl) ⟨mw_1023, kw_X6_saves⟩ ⟨⟨rfl, rfl⟩, ko_X6_saves, ⟨Nat.le_of_ble_eq_true rfl, Nat.le_of_ble_eq_true rfl⟩⟩ rfl rfl (Nat.le_of_ble_eq_true rfl) dX6_set_77 ⟨Nat.le_of_ble_eq_true rfl, Nat.le_of_ble_eq_true rfl⟩) (fun H locs hW => ?_)
      refine lv_aload_n hx hb dX6_set_80 rfl (lv_at hl 0 rfl) ?_
      refine gf_21_1 X hW (by decide) mw_948 dX6_set_81 ?_
      refine lv_iload_n hx hb dX6_set_84 rfl (lv_at hl 1 rfl) ?_
      obtain ⟨b19, hf⟩ := chk_ex hf
      refine r_iald X hW 22 0 (by decide) (by decide) rfl b19 dX6_set_85 ?_
      obtain ⟨v20, ex, hf⟩ := wth_ex hf
      refine lv_nm ex ?_
      clear ex
      refine lv_istore (lv' := [(4, .int v20), (0, .ref (ad g 21 0)), (1, .int x1), (2, .int x2), (3, .int x3)]) hx hb dX6_set_86 hl (by decide) rfl (fun ls hl => ?_)
      refine lv_aload_n hx hb dX6_set_88 rfl (lv_at hl 1 rfl) ?_
      refine gf_21_1 X hW (by decide) mw_948 dX6_set_89 ?_
      refine lv_iload_n hx hb dX6_set_92 rfl (lv_at hl 2 rfl) ?_
      refine lv_iload_n hx hb dX6_set_93 rfl (lv_at hl 3 rfl) ?_
      obtain ⟨b21, hf⟩ := chk_ex hf
      obtain ⟨m22, ex, hf⟩ := wth_ex hf
      refine r_iast X hW 22 0 (by decide) (by decide) (fun _ => rfl) b21 dX6_set_94 (fun H locs hW => ?_)
      replace hW := hW.same ex
      clear ex
      refine lv_aload_n hx hb dX6_set_95 rfl (lv_at hl 1 rfl) ?_
      refine gf_21_1 X hW (by decide) mw_948 dX6_set_96 ?_
      refine lv_bipush (v := 6) hx hb dX6_set_99 (by decide) ?_
      refine lv_iconst (v := 0) hx hb dX6_set_101 (by decide) ?_
      obtain ⟨b23, hf⟩ := chk_ex hf
      obtain ⟨m24, ex, hf⟩ := wth_ex hf
      refine r_iast X hW 22 0 (by decide) (by decide) (fun _ => rfl) b23 dX6_set_102 (fun H locs hW => ?_)
      replace hW := hW.same ex
      clear ex
      refine lv_iload hx hb dX6_set_103 (lv_at hl 0 rfl) ?_
      obtain ⟨hf, hm⟩ := prinj hf
      replace hW := hW.same hm.symm
      exact e_i X hr hW (hf) dX6_set_105
    · replace hf := ite_t hf c28
      refine lv_aload_n hx hb dX6_set_70 rfl (lv_at hl 0 rfl) ?_
      refine lv_iconst (v := 2) hx hb dX6_set_71 (by decide) ?_
      obtain ⟨r26, m27, e25, hf⟩ := bn2_ex hf
      refine k_i X hW (k_V (As := [.int 2]) (rest := []) X hW hml hl.1 (c_X6_fails l g hDW  _ mm _ _ e25) (r_recv X hW 21 0 (by decide) (by decide) rfl rfl) ⟨mw_1019, kw_X6_fails⟩ ⟨⟨rfl, rfl⟩, ko_X6_fails, ⟨Nat.le_of_ble_eq_true rfl, Nat.le_of_ble_eq_true rfl⟩⟩ rfl rfl (Nat.le_of_ble_eq_true rfl) dX6_set_72 ⟨Nat.le_of_ble_eq_true rfl, Nat.le_of_ble_eq_true rfl⟩) (fun H locs hW => ?_)
      obtain ⟨hf, hm⟩ := prinj hf
      replace hW := hW.same hm.symm
      exact e_i X hr hW (hf) dX6_set_75
  have P_52 : ∀ (x1 : Int32) (x2 : Int32) (s0 : Int32) (mm : gM) (H : Heap) (locs : List Loc) (ls : Array Slot), Wd g mm s H locs → lv_has ls 5 [(0, .ref (ad g 21 0)), (1, .int x1), (2, .int x2)] → jX6_set_52 x1 x2 s0 mm = some (r0, mZ) → W p l e rm_X6_set s m args below meth c H locs 0 0 (MQ below (CI g mZ r0) args s 0 0 (gA g)) (F0 m 52 ls [.int s0]) := by
    intro x1 x2 s0 mm H locs ls hW hl hf
    unfold jX6_set_52 at hf
    refine lv_istore_n (lv' := [(3, .int s0), (0, .ref (ad g 21 0)), (1, .int x1), (2, .int x2)]) hx hb dX6_set_52 rfl hl (by decide) rfl (fun ls hl => ?_)
    refine lv_iload_n hx hb dX6_set_53 rfl (lv_at hl 3 rfl) ?_
    refine lv_iload_n hx hb dX6_set_54 rfl (lv_at hl 2 rfl) ?_
    refine lv_if_ne (tgt := 62) hx hb dX6_set_55 (by decide) (fun c12 => ?_) (fun c12 => ?_)
    · replace hf := ite_f hf c12
      refine lv_iconst (v := 1) hx hb dX6_set_62 (by decide) ?_
      exact P_63 _ _ _ _ _ _ _ _ _ hW (lv_sub hl [1, 2, 3, 0] rfl) hf
    · replace hf := ite_t hf c12
      refine lv_iconst (v := 0) hx hb dX6_set_58 (by decide) ?_
      refine lv_goto (tgt := 63) hx hb dX6_set_59 (by decide) ?_
      exact P_63 _ _ _ _ _ _ _ _ _ hW (lv_sub hl [1, 2, 3, 0] rfl) hf
  unfold fX6_set at hf
  refine lv_aload_n hx hb dX6_set_0 rfl (lv_at hl 0 rfl) ?_
  refine lv_iconst (v := 0) hx hb dX6_set_1 (by decide) ?_
  obtain ⟨m1, ex, hf⟩ := wth_ex hf
  refine pf_21_0 X hW (by decide) mw_947 dX6_set_2 (fun H locs hW => ?_)
  replace hW := hW.same ex
  clear ex
  refine lv_iload_n hx hb dX6_set_5 rfl (lv_at hl 1 rfl) ?_
  refine lv_iconst (v := 0) hx hb dX6_set_6 (by decide) ?_
  refine lv_iconst (v := 3) hx hb dX6_set_7 (by decide) ?_
  obtain ⟨r3, e2, hf⟩ := bnd_ex hf
  refine k_i X hW (k_S (As := [.int x1, .int 0, .int 3]) (rest := []) X hW hml hl.1 (c_X6_in l g hDW  _ _ _ m1 _ e2) ⟨mw_1016, kw_X6_in⟩ ⟨⟨rfl, rfl⟩, ko_X6_in, ⟨Nat.le_of_ble_eq_true rfl, Nat.le_of_ble_eq_true rfl⟩⟩ rfl rfl (Nat.le_of_ble_eq_true rfl) dX6_set_8 ⟨Nat.le_of_ble_eq_true rfl, Nat.le_of_ble_eq_true rfl⟩) (fun H locs hW => ?_)
  refine lv_if_ne (tgt := 20) hx hb dX6_set_11 (by decide) (fun c11 => ?_) (fun c11 => ?_)
  · replace hf := ite_f hf c11
    refine lv_iload_n hx hb dX6_set_20 rfl (lv_at hl 1 rfl) ?_
    refine lv_if_ne (tgt := 28) hx hb dX6_set_21 (by decide) (fun c7 => ?_) (fun c7 => ?_)
    · replace hf := ite_f hf c7
      refine lv_iload_n hx hb dX6_set_28 rfl (lv_at hl 1 rfl) ?_
      refine lv_iconst (v := 1) hx hb dX6_set_29 (by decide) ?_
      refine lv_icmp_ne (tgt := 39) hx hb dX6_set_30 (by decide) (fun c6 => ?_) (fun c6 => ?_)
      · replace hf := ite_f hf c6
        refine lv_iload_n hx hb dX6_set_39 rfl (lv_at hl 1 rfl) ?_
        refine lv_iconst (v := 2) hx hb dX6_set_40 (by decide) ?_
        refine lv_icmp_ne (tgt := 49) hx hb dX6_set_41 (by decide) (fun c5 => ?_) (fun c5 => ?_)
        · replace hf := ite_f hf c5
          refine lv_sipush (v := 500) hx hb dX6_set_49 (by decide) ?_
          exact P_52 _ _ _ _ _ _ _ hW (lv_sub hl [0, 1, 2] rfl) hf
        · replace hf := ite_t hf c5
          refine lv_bipush (v := 16) hx hb dX6_set_44 (by decide) ?_
          refine lv_goto (tgt := 52) hx hb dX6_set_46 (by decide) ?_
          exact P_52 _ _ _ _ _ _ _ hW (lv_sub hl [0, 1, 2] rfl) hf
      · replace hf := ite_t hf c6
        refine lv_sipush (v := 2000) hx hb dX6_set_33 (by decide) ?_
        refine lv_goto (tgt := 52) hx hb dX6_set_36 (by decide) ?_
        exact P_52 _ _ _ _ _ _ _ hW (lv_sub hl [0, 1, 2] rfl) hf
    · replace hf := ite_t hf c7
      refine lv_iconst (v := 3) hx hb dX6_set_24 (by decide) ?_
      refine lv_goto (tgt := 52) hx hb dX6_set_25 (by decide) ?_
      exact P_52 _ _ _ _ _ _ _ hW (lv_sub hl [0, 1, 2] rfl) hf
  · replace hf := ite_t hf c11
    refine lv_aload_n hx hb dX6_set_14 rfl (lv_at hl 0 rfl) ?_
    refine lv_iconst (v := 1) hx hb dX6_set_15 (by decide) ?_
    obtain ⟨r9, m10, e8, hf⟩ := bn2_ex hf
    refine k_i X hW (k_V (As := [.int 1]) (rest := []) X hW hml hl.1 (c_X6_fails l g hDW  _ m1 _ _ e8) (r_recv X hW 21 0 (by decide) (by decide) rfl rfl) ⟨mw_1019, kw_X6_fails⟩ ⟨⟨rfl, rfl⟩, ko_X6_fails, ⟨Nat.le_of_ble_eq_true rfl, Nat.le_of_ble_eq_true rfl⟩⟩ rfl rfl (Nat.le_of_ble_eq_true rfl) dX6_set_16 ⟨Nat.le_of_ble_eq_true rfl, Nat.le_of_ble_eq_true rfl⟩) (fun H locs hW => ?_)
    obtain ⟨hf, hm⟩ := prinj hf
    replace hW := hW.same hm.symm
    exact e_i X hr hW (hf) dX6_set_19
set_option maxRecDepth 100000 in
set_option maxHeartbeats 4000000 in
theorem c_X6_pass (l : Launch) (g : gG) (hDW : DW g) (x1 : Int32) (mm : gM) (r0 : Int32) (mZ : gM) (hf : fX6_pass x1 mm = some (r0, mZ)) : Met l yX6_pass (Cond.code yX6_pass cX6_pass 5 (some .int) :: ALLW) rm_X6_pass (CPre g mm [.ref (ad g 21 0), .int x1]) (CI g mZ r0) 0 0 (gA g) := by
  refine Met.ofW (cc := cX6_pass) (maxL := 5) (ret := (some .int)) (by decide) rfl ?_
  intro p e s m args below meth c s₁ B hml hv
  obtain ⟨ha, hFx, hP0, hlo⟩ := hv
  have X : Cx g p s m args c meth RX6 cX6_pass := Cx_of hDW hFx hlo B
  have hx := X.1
  have hb := X.2.1
  have hr := B.returns
  have hlocks := X.2.2.2.2.2.2.2
  have hW : Wd g mm s s.heap [] := ⟨hP0, va_S.rf⟩
  rw [ha, lg_entry_eq]
  have hl := lv_entry ([.ref (ad g 21 0), .int x1] : List Value) (n := 5) (Nat.le_of_ble_eq_true rfl)
  generalize (lg_sl ([.ref (ad g 21 0), .int x1] : List Value) ++ List.replicate (5 - (lg_sl ([.ref (ad g 21 0), .int x1] : List Value)).length) Slot.unset).toArray = ls at hl ⊢
  have hl : lv_has ls 5 [(0, .ref (ad g 21 0)), (1, .int x1)] := hl
  rw [← ha]
  show W p l e rm_X6_pass s m args below meth c s.heap [] 0 0 (MQ below (CI g mZ r0) args s 0 0 (gA g)) (F0 m 0 ls [])
  have P_155 : ∀ (x1 : Int32) (x3 : Int32) (mm : gM) (H : Heap) (locs : List Loc) (ls : Array Slot), Wd g mm s H locs → lv_has ls 5 [(0, .ref (ad g 21 0)), (1, .int x1), (3, .int x3)] → jX6_pass_155 x1 x3 mm = some (r0, mZ) → W p l e rm_X6_pass s m args below meth c H locs 0 0 (MQ below (CI g mZ r0) args s 0 0 (gA g)) (F0 m 155 ls []) := by
    intro x1 x3 mm H locs ls hW hl hf
    unfold jX6_pass_155 at hf
    refine lv_aload_n hx hb dX6_pass_155 rfl (lv_at hl 0 rfl) ?_
    refine gf_21_1 X hW (by decide) mw_948 dX6_pass_156 ?_
    refine lv_iconst (v := 5) hx hb dX6_pass_159 (by decide) ?_
    refine lv_dup2_11 hx hb dX6_pass_160 rfl rfl ?_
    obtain ⟨b39, hf⟩ := chk_ex hf
    refine r_iald X hW 22 0 (by decide) (by decide) rfl b39 dX6_pass_161 ?_
    refine lv_iload_n hx hb dX6_pass_162 rfl (lv_at hl 1 rfl) ?_
    refine lv_iadd hx hb dX6_pass_163 ?_
    obtain ⟨b40, hf⟩ := chk_ex hf
    obtain ⟨m41, ex, hf⟩ := wth_ex hf
    refine r_iast X hW 22 0 (by decide) (by decide) (fun _ => rfl) b40 dX6_pass_164 (fun H locs hW => ?_)
    replace hW := hW.same ex
    clear ex
    refine lv_aload_n hx hb dX6_pass_165 rfl (lv_at hl 0 rfl) ?_
    refine gf_21_1 X hW (by decide) mw_948 dX6_pass_166 ?_
    refine lv_bipush (v := 7) hx hb dX6_pass_169 (by decide) ?_
    refine lv_dup2_11 hx hb dX6_pass_171 rfl rfl ?_
    obtain ⟨b42, hf⟩ := chk_ex hf
    refine r_iald X hW 22 0 (by decide) (by decide) rfl b42 dX6_pass_172 ?_
    refine lv_iload_n hx hb dX6_pass_173 rfl (lv_at hl 2 rfl) ?_
    refine lv_iadd hx hb dX6_pass_174 ?_
    obtain ⟨b43, hf⟩ := chk_ex hf
    obtain ⟨m44, ex, hf⟩ := wth_ex hf
    refine r_iast X hW 22 0 (by decide) (by decide) (fun _ => rfl) b43 dX6_pass_175 (fun H locs hW => ?_)
    replace hW := hW.same ex
    clear ex
    refine lv_iload_n hx hb dX6_pass_176 rfl (lv_at hl 2 rfl) ?_
    obtain ⟨hf, hm⟩ := prinj hf
    replace hW := hW.same hm.symm
    exact e_i X hr hW (hf) dX6_pass_177
  have P_125 : ∀ (n125 : Nat) (x1 : Int32) (x3 : Int32) (x4 : Int32) (mm : gM) (H : Heap) (locs : List Loc) (ls : Array Slot), Wd g mm s H locs → lv_has ls 5 [(0, .ref (ad g 21 0)), (1, .int x1), (3, .int x3), (4, .int x4)] → lX6_pass_125 n125 x1 x3 x4 mm = some (r0, mZ) → W p l e rm_X6_pass s m args below meth c H locs 0 0 (MQ below (CI g mZ r0) args s 0 0 (gA g)) (F0 m 125 ls []) := by
    intro n125
    induction n125 with
    | zero => intro x1 x3 x4 mm H locs ls hW hl hf; exact (no_some hf).elim
    | succ n125 ih_125 =>
      intro x1 x3 x4 mm H locs ls hW hl hf
      rw [lX6_pass_125_s] at hf
      refine lv_iload hx hb dX6_pass_125 (lv_at hl 3 rfl) ?_
      refine lv_bipush (v := 48) hx hb dX6_pass_127 (by decide) ?_
      refine lv_icmp_ge (tgt := 155) hx hb dX6_pass_129 (by decide) (fun c38 => ?_) (fun c38 => ?_)
      · replace hf := ite_t hf c38
        exact P_155 _ _ _ _ _ _ hW (lv_sub hl [0, 1, 2] rfl) hf
      · replace hf := ite_f hf c38
        refine lv_aload_n hx hb dX6_pass_132 rfl (lv_at hl 0 rfl) ?_
        refine gf_21_1 X hW (by decide) mw_948 dX6_pass_133 ?_
        refine lv_bipush (v := 32) hx hb dX6_pass_136 (by decide) ?_
        refine lv_iload hx hb dX6_pass_138 (lv_at hl 3 rfl) ?_
        refine lv_iadd hx hb dX6_pass_140 ?_
        refine lv_aload_n hx hb dX6_pass_141 rfl (lv_at hl 0 rfl) ?_
        refine gf_21_13 X hW (by decide) mw_960 dX6_pass_142 ?_
        refine lv_iload hx hb dX6_pass_145 (lv_at hl 3 rfl) ?_
        obtain ⟨b35, hf⟩ := chk_ex hf
        refine r_iald X hW 29 0 (by decide) (by decide) rfl b35 dX6_pass_147 ?_
        obtain ⟨b36, hf⟩ := chk_ex hf
        obtain ⟨m37, ex, hf⟩ := wth_ex hf
        refine r_iast X hW 22 0 (by decide) (by decide) (fun _ => rfl) b36 dX6_pass_148 (fun H locs hW => ?_)
        replace hW := hW.same ex
        clear ex
        refine lv_iinc (v := x4 + 1) (lv' := [(4, .int (x4 + 1)), (0, .ref (ad g 21 0)), (1, .int x1), (3, .int x3)]) hx hb dX6_pass_149 hl (k := 3) rfl rfl (by decide) rfl (fun ls hl => ?_)
        refine lv_goto (tgt := 125) hx hb dX6_pass_152 (by decide) ?_
        exact ih_125 _ _ _ _ _ _ _ hW (lv_sub hl [1, 2, 3, 0] rfl) hf
  have P_122 : ∀ (x1 : Int32) (x3 : Int32) (mm : gM) (H : Heap) (locs : List Loc) (ls : Array Slot), Wd g mm s H locs → lv_has ls 5 [(0, .ref (ad g 21 0)), (1, .int x1), (3, .int x3)] → jX6_pass_122 x1 x3 mm = some (r0, mZ) → W p l e rm_X6_pass s m args below meth c H locs 0 0 (MQ below (CI g mZ r0) args s 0 0 (gA g)) (F0 m 122 ls []) := by
    intro x1 x3 mm H locs ls hW hl hf
    unfold jX6_pass_122 at hf
    refine lv_iconst (v := 0) hx hb dX6_pass_122 (by decide) ?_
    refine lv_istore (lv' := [(4, .int 0), (0, .ref (ad g 21 0)), (1, .int x1), (3, .int x3)]) hx hb dX6_pass_123 hl (by decide) rfl (fun ls hl => ?_)
    exact P_125 _ _ _ _ _ _ _ _ hW (lv_sub hl [1, 2, 3, 0] rfl) hf
  have P_63 : ∀ (n63 : Nat) (x1 : Int32) (x2 : Int32) (x3 : Int32) (x4 : Int32) (mm : gM) (H : Heap) (locs : List Loc) (ls : Array Slot), Wd g mm s H locs → lv_has ls 5 [(0, .ref (ad g 21 0)), (1, .int x1), (2, .int x2), (3, .int x3), (4, .int x4)] → lX6_pass_63 n63 x1 x2 x3 x4 mm = some (r0, mZ) → W p l e rm_X6_pass s m args below meth c H locs 0 0 (MQ below (CI g mZ r0) args s 0 0 (gA g)) (F0 m 63 ls []) := by
    intro n63
    induction n63 with
    | zero => intro x1 x2 x3 x4 mm H locs ls hW hl hf; exact (no_some hf).elim
    | succ n63 ih_63 =>
      have P_114 : ∀ (x1 : Int32) (x2 : Int32) (x4 : Int32) (s0 : Int32) (s1 : Int32) (mm : gM) (H : Heap) (locs : List Loc) (ls : Array Slot), Wd g mm s H locs → lv_has ls 5 [(0, .ref (ad g 21 0)), (1, .int x1), (2, .int x2), (4, .int x4)] → jX6_pass_114 (lX6_pass_63 n63) x1 x2 x4 s0 s1 mm = some (r0, mZ) → W p l e rm_X6_pass s m args below meth c H locs 0 0 (MQ below (CI g mZ r0) args s 0 0 (gA g)) (F0 m 114 ls [.int s1, .int s0]) := by
        intro x1 x2 x4 s0 s1 mm H locs ls hW hl hf
        unfold jX6_pass_114 at hf
        refine lv_iadd hx hb dX6_pass_114 ?_
        refine lv_istore_n (lv' := [(3, .int (s0 + s1)), (0, .ref (ad g 21 0)), (1, .int x1), (2, .int x2), (4, .int x4)]) hx hb dX6_pass_115 rfl hl (by decide) rfl (fun ls hl => ?_)
        refine lv_iinc (v := x4 + 1) (lv' := [(4, .int (x4 + 1)), (3, .int (s0 + s1)), (0, .ref (ad g 21 0)), (1, .int x1), (2, .int x2)]) hx hb dX6_pass_116 hl (k := 4) rfl rfl (by decide) rfl (fun ls hl => ?_)
        refine lv_goto (tgt := 63) hx hb dX6_pass_119 (by decide) ?_
        exact ih_63 _ _ _ _ _ _ _ _ hW (lv_sub hl [2, 3, 4, 1, 0] rfl) hf
      intro x1 x2 x3 x4 mm H locs ls hW hl hf
      rw [lX6_pass_63_s] at hf
      refine lv_iload hx hb dX6_pass_63 (lv_at hl 4 rfl) ?_
      refine lv_iload_n hx hb dX6_pass_65 rfl (lv_at hl 1 rfl) ?_
      refine lv_icmp_ge (tgt := 122) hx hb dX6_pass_66 (by decide) (fun c34 => ?_) (fun c34 => ?_)
      · replace hf := ite_t hf c34
        exact P_122 _ _ _ _ _ _ hW (lv_sub hl [0, 1, 3] rfl) hf
      · replace hf := ite_f hf c34
        refine lv_aload_n hx hb dX6_pass_69 rfl (lv_at hl 0 rfl) ?_
        refine lv_aload_n hx hb dX6_pass_70 rfl (lv_at hl 0 rfl) ?_
        refine gf_21_1 X hW (by decide) mw_948 dX6_pass_71 ?_
        refine lv_bipush (v := 6) hx hb dX6_pass_74 (by decide) ?_
        obtain ⟨b24, hf⟩ := chk_ex hf
        refine r_iald X hW 22 0 (by decide) (by decide) rfl b24 dX6_pass_76 ?_
        obtain ⟨m27, e25, hf⟩ := bnd_ex hf
        refine k_v X hW (k_V (As := [.int (gi mm 22 0 (6 : Int32).toNatClampNeg)]) (rest := []) X hW hml hl.1 (c_X6_ticks l g hDW  _ mm _ e25) (r_recv X hW 21 0 (by decide) (by decide) rfl rfl) ⟨mw_1101, kw_X6_ticks⟩ ⟨⟨rfl, rfl⟩, ko_X6_ticks, ⟨Nat.le_of_ble_eq_true rfl, Nat.le_of_ble_eq_true rfl⟩⟩ rfl rfl (Nat.le_of_ble_eq_true rfl) dX6_pass_77 ⟨Nat.le_of_ble_eq_true rfl, Nat.le_of_ble_eq_true rfl⟩) (fun H locs hW => ?_)
        refine lv_aload_n hx hb dX6_pass_80 rfl (lv_at hl 0 rfl) ?_
        refine gf_21_1 X hW (by decide) mw_948 dX6_pass_81 ?_
        refine lv_bipush (v := 6) hx hb dX6_pass_84 (by decide) ?_
        refine lv_aload_n hx hb dX6_pass_86 rfl (lv_at hl 0 rfl) ?_
        refine gf_21_1 X hW (by decide) mw_948 dX6_pass_87 ?_
        refine lv_bipush (v := 6) hx hb dX6_pass_90 (by decide) ?_
        obtain ⟨b28, hf⟩ := chk_ex hf
        refine r_iald X hW 22 0 (by decide) (by decide) rfl b28 dX6_pass_92 ?_
        refine lv_iconst (v := 1) hx hb dX6_pass_93 (by decide) ?_
        refine lv_iadd hx hb dX6_pass_94 ?_
        refine lv_iload_n hx hb dX6_pass_95 rfl (lv_at hl 2 rfl) ?_
        obtain ⟨b29, hf⟩ := chk_ex hf
        refine r_irem hx hb dX6_pass_96 b29 ?_
        obtain ⟨b30, hf⟩ := chk_ex hf
        obtain ⟨m31, ex, hf⟩ := wth_ex hf
        refine r_iast X hW 22 0 (by decide) (by decide) (fun _ => rfl) b30 dX6_pass_97 (fun H locs hW => ?_)
        replace hW := hW.same ex
        clear ex
        refine lv_iload_n hx hb dX6_pass_98 rfl (lv_at hl 3 rfl) ?_
        refine lv_aload_n hx hb dX6_pass_99 rfl (lv_at hl 0 rfl) ?_
        refine gf_21_1 X hW (by decide) mw_948 dX6_pass_100 ?_
        refine lv_bipush (v := 6) hx hb dX6_pass_103 (by decide) ?_
        obtain ⟨b32, hf⟩ := chk_ex hf
        refine r_iald X hW 22 0 (by decide) (by decide) rfl b32 dX6_pass_105 ?_
        refine lv_if_ne (tgt := 113) hx hb dX6_pass_106 (by decide) (fun c33 => ?_) (fun c33 => ?_)
        · replace hf := ite_f hf c33
          refine lv_iconst (v := 0) hx hb dX6_pass_113 (by decide) ?_
          exact P_114 _ _ _ _ _ _ _ _ _ hW (lv_sub hl [0, 1, 2, 4] rfl) hf
        · replace hf := ite_t hf c33
          refine lv_iconst (v := 1) hx hb dX6_pass_109 (by decide) ?_
          refine lv_goto (tgt := 114) hx hb dX6_pass_110 (by decide) ?_
          exact P_114 _ _ _ _ _ _ _ _ _ hW (lv_sub hl [0, 1, 2, 4] rfl) hf
  have P_44 : ∀ (mm : gM) (H : Heap) (locs : List Loc) (ls : Array Slot), Wd g mm s H locs → lv_has ls 5 [(0, .ref (ad g 21 0))] → jX6_pass_44 mm = some (r0, mZ) → W p l e rm_X6_pass s m args below meth c H locs 0 0 (MQ below (CI g mZ r0) args s 0 0 (gA g)) (F0 m 44 ls []) := by
    intro mm H locs ls hW hl hf
    unfold jX6_pass_44 at hf
    refine lv_aload_n hx hb dX6_pass_44 rfl (lv_at hl 0 rfl) ?_
    refine lv_iconst (v := 2) hx hb dX6_pass_45 (by decide) ?_
    obtain ⟨r22, m23, e21, hf⟩ := bn2_ex hf
    refine k_i X hW (k_V (As := [.int 2]) (rest := []) X hW hml hl.1 (c_X6_fails l g hDW  _ mm _ _ e21) (r_recv X hW 21 0 (by decide) (by decide) rfl rfl) ⟨mw_1019, kw_X6_fails⟩ ⟨⟨rfl, rfl⟩, ko_X6_fails, ⟨Nat.le_of_ble_eq_true rfl, Nat.le_of_ble_eq_true rfl⟩⟩ rfl rfl (Nat.le_of_ble_eq_true rfl) dX6_pass_46 ⟨Nat.le_of_ble_eq_true rfl, Nat.le_of_ble_eq_true rfl⟩) (fun H locs hW => ?_)
    obtain ⟨hf, hm⟩ := prinj hf
    replace hW := hW.same hm.symm
    exact e_i X hr hW (hf) dX6_pass_49
  unfold fX6_pass at hf
  refine lv_aload_n hx hb dX6_pass_0 rfl (lv_at hl 0 rfl) ?_
  refine lv_iconst (v := 0) hx hb dX6_pass_1 (by decide) ?_
  obtain ⟨m1, ex, hf⟩ := wth_ex hf
  refine pf_21_0 X hW (by decide) mw_947 dX6_pass_2 (fun H locs hW => ?_)
  replace hW := hW.same ex
  clear ex
  refine lv_iload_n hx hb dX6_pass_5 rfl (lv_at hl 1 rfl) ?_
  refine lv_iconst (v := 1) hx hb dX6_pass_6 (by decide) ?_
  refine lv_sipush (v := 200) hx hb dX6_pass_7 (by decide) ?_
  obtain ⟨r3, e2, hf⟩ := bnd_ex hf
  refine k_i X hW (k_S (As := [.int x1, .int 1, .int 200]) (rest := []) X hW hml hl.1 (c_X6_in l g hDW  _ _ _ m1 _ e2) ⟨mw_1016, kw_X6_in⟩ ⟨⟨rfl, rfl⟩, ko_X6_in, ⟨Nat.le_of_ble_eq_true rfl, Nat.le_of_ble_eq_true rfl⟩⟩ rfl rfl (Nat.le_of_ble_eq_true rfl) dX6_pass_10 ⟨Nat.le_of_ble_eq_true rfl, Nat.le_of_ble_eq_true rfl⟩) (fun H locs hW => ?_)
  refine lv_if_ne (tgt := 22) hx hb dX6_pass_13 (by decide) (fun c20 => ?_) (fun c20 => ?_)
  · replace hf := ite_f hf c20
    refine lv_aload_n hx hb dX6_pass_22 rfl (lv_at hl 0 rfl) ?_
    obtain ⟨r6, e5, hf⟩ := bnd_ex hf
    refine k_i X hW (k_V (As := []) (rest := []) X hW hml hl.1 (c_X6_roundTicks l g hDW   m1 _ e5) (r_recv X hW 21 0 (by decide) (by decide) rfl rfl) ⟨mw_1088, kw_X6_roundTicks⟩ ⟨⟨rfl, rfl⟩, ko_X6_roundTicks, ⟨Nat.le_of_ble_eq_true rfl, Nat.le_of_ble_eq_true rfl⟩⟩ rfl rfl (Nat.le_of_ble_eq_true rfl) dX6_pass_23 ⟨Nat.le_of_ble_eq_true rfl, Nat.le_of_ble_eq_true rfl⟩) (fun H locs hW => ?_)
    refine lv_istore_n (lv' := [(2, .int r6), (0, .ref (ad g 21 0)), (1, .int x1)]) hx hb dX6_pass_26 rfl hl (by decide) rfl (fun ls hl => ?_)
    refine lv_iload_n hx hb dX6_pass_27 rfl (lv_at hl 0 rfl) ?_
    refine lv_if_eq (tgt := 44) hx hb dX6_pass_28 (by decide) (fun c16 => ?_) (fun c16 => ?_)
    · replace hf := ite_t hf c16
      exact P_44 _ _ _ _ hW (lv_sub hl [1] rfl) hf
    · replace hf := ite_f hf c16
      refine lv_aload_n hx hb dX6_pass_31 rfl (lv_at hl 1 rfl) ?_
      refine gf_21_1 X hW (by decide) mw_948 dX6_pass_32 ?_
      refine lv_iconst (v := 5) hx hb dX6_pass_35 (by decide) ?_
      obtain ⟨b8, hf⟩ := chk_ex hf
      refine r_iald X hW 22 0 (by decide) (by decide) rfl b8 dX6_pass_36 ?_
      refine lv_iload_n hx hb dX6_pass_37 rfl (lv_at hl 2 rfl) ?_
      refine lv_iadd hx hb dX6_pass_38 ?_
      refine lv_ldc hx hb X.2.2.1 (X.2.2.2.1 _ mw_1096) dX6_pass_39 ?_
      refine lv_icmp_le (tgt := 50) hx hb dX6_pass_41 (by decide) (fun c15 => ?_) (fun c15 => ?_)
      · replace hf := ite_t hf c15
        refine lv_aload_n hx hb dX6_pass_50 rfl (lv_at hl 1 rfl) ?_
        obtain ⟨m11, e9, hf⟩ := bnd_ex hf
        refine k_v X hW (k_V (As := []) (rest := []) X hW hml hl.1 (c_X6_saves l g hDW   m1 _ e9) (r_recv X hW 21 0 (by decide) (by decide) rfl rfl) ⟨mw_1023, kw_X6_saves⟩ ⟨⟨rfl, rfl⟩, ko_X6_saves, ⟨Nat.le_of_ble_eq_true rfl, Nat.le_of_ble_eq_true rfl⟩⟩ rfl rfl (Nat.le_of_ble_eq_true rfl) dX6_pass_51 ⟨Nat.le_of_ble_eq_true rfl, Nat.le_of_ble_eq_true rfl⟩) (fun H locs hW => ?_)
        refine lv_aload_n hx hb dX6_pass_54 rfl (lv_at hl 1 rfl) ?_
        obtain ⟨m14, e12, hf⟩ := bnd_ex hf
        refine k_v X hW (k_V (As := []) (rest := []) X hW hml hl.1 (c_X6_copiesGlows l g hDW   m11 _ e12) (r_recv X hW 21 0 (by decide) (by decide) rfl rfl) ⟨mw_1097, kw_X6_copiesGlows⟩ ⟨⟨rfl, rfl⟩, ko_X6_copiesGlows, ⟨Nat.le_of_ble_eq_true rfl, Nat.le_of_ble_eq_true rfl⟩⟩ rfl rfl (Nat.le_of_ble_eq_true rfl) dX6_pass_55 ⟨Nat.le_of_ble_eq_true rfl, Nat.le_of_ble_eq_true rfl⟩) (fun H locs hW => ?_)
        refine lv_iconst (v := 0) hx hb dX6_pass_58 (by decide) ?_
        refine lv_istore_n (lv' := [(3, .int 0), (2, .int r6), (0, .ref (ad g 21 0)), (1, .int x1)]) hx hb dX6_pass_59 rfl hl (by decide) rfl (fun ls hl => ?_)
        refine lv_iconst (v := 0) hx hb dX6_pass_60 (by decide) ?_
        refine lv_istore (lv' := [(4, .int 0), (3, .int 0), (2, .int r6), (0, .ref (ad g 21 0)), (1, .int x1)]) hx hb dX6_pass_61 hl (by decide) rfl (fun ls hl => ?_)
        exact P_63 _ _ _ _ _ _ _ _ _ hW (lv_sub hl [3, 4, 2, 1, 0] rfl) hf
      · replace hf := ite_f hf c15
        exact P_44 _ _ _ _ hW (lv_sub hl [1] rfl) hf
  · replace hf := ite_t hf c20
    refine lv_aload_n hx hb dX6_pass_16 rfl (lv_at hl 0 rfl) ?_
    refine lv_iconst (v := 1) hx hb dX6_pass_17 (by decide) ?_
    obtain ⟨r18, m19, e17, hf⟩ := bn2_ex hf
    refine k_i X hW (k_V (As := [.int 1]) (rest := []) X hW hml hl.1 (c_X6_fails l g hDW  _ m1 _ _ e17) (r_recv X hW 21 0 (by decide) (by decide) rfl rfl) ⟨mw_1019, kw_X6_fails⟩ ⟨⟨rfl, rfl⟩, ko_X6_fails, ⟨Nat.le_of_ble_eq_true rfl, Nat.le_of_ble_eq_true rfl⟩⟩ rfl rfl (Nat.le_of_ble_eq_true rfl) dX6_pass_18 ⟨Nat.le_of_ble_eq_true rfl, Nat.le_of_ble_eq_true rfl⟩) (fun H locs hW => ?_)
    obtain ⟨hf, hm⟩ := prinj hf
    replace hW := hW.same hm.symm
    exact e_i X hr hW (hf) dX6_pass_21
set_option maxRecDepth 100000 in
set_option maxHeartbeats 4000000 in
theorem c_X6_append (l : Launch) (g : gG) (hDW : DW g) (x1 : Int32) (mm : gM) (r0 : Int32) (mZ : gM) (hf : fX6_append x1 mm = some (r0, mZ)) : Met l yX6_append (Cond.code yX6_append cX6_append 2 (some .int) :: ALLW) rm_X6_append (CPre g mm [.ref (ad g 21 0), .int x1]) (CI g mZ r0) 0 0 (gA g) := by
  refine Met.ofW (cc := cX6_append) (maxL := 2) (ret := (some .int)) (by decide) rfl ?_
  intro p e s m args below meth c s₁ B hml hv
  obtain ⟨ha, hFx, hP0, hlo⟩ := hv
  have X : Cx g p s m args c meth RX6 cX6_append := Cx_of hDW hFx hlo B
  have hx := X.1
  have hb := X.2.1
  have hr := B.returns
  have hlocks := X.2.2.2.2.2.2.2
  have hW : Wd g mm s s.heap [] := ⟨hP0, va_S.rf⟩
  rw [ha, lg_entry_eq]
  have hl := lv_entry ([.ref (ad g 21 0), .int x1] : List Value) (n := 2) (Nat.le_of_ble_eq_true rfl)
  generalize (lg_sl ([.ref (ad g 21 0), .int x1] : List Value) ++ List.replicate (2 - (lg_sl ([.ref (ad g 21 0), .int x1] : List Value)).length) Slot.unset).toArray = ls at hl ⊢
  have hl : lv_has ls 2 [(0, .ref (ad g 21 0)), (1, .int x1)] := hl
  rw [← ha]
  show W p l e rm_X6_append s m args below meth c s.heap [] 0 0 (MQ below (CI g mZ r0) args s 0 0 (gA g)) (F0 m 0 ls [])
  unfold fX6_append at hf
  refine lv_aload_n hx hb dX6_append_0 rfl (lv_at hl 0 rfl) ?_
  refine lv_iconst (v := 0) hx hb dX6_append_1 (by decide) ?_
  obtain ⟨m1, ex, hf⟩ := wth_ex hf
  refine pf_21_0 X hW (by decide) mw_947 dX6_append_2 (fun H locs hW => ?_)
  replace hW := hW.same ex
  clear ex
  refine lv_iload_n hx hb dX6_append_5 rfl (lv_at hl 1 rfl) ?_
  refine lv_bipush (v := 33) hx hb dX6_append_6 (by decide) ?_
  refine lv_bipush (v := 126) hx hb dX6_append_8 (by decide) ?_
  obtain ⟨r3, e2, hf⟩ := bnd_ex hf
  refine k_i X hW (k_S (As := [.int x1, .int 33, .int 126]) (rest := []) X hW hml hl.1 (c_X6_in l g hDW  _ _ _ m1 _ e2) ⟨mw_1016, kw_X6_in⟩ ⟨⟨rfl, rfl⟩, ko_X6_in, ⟨Nat.le_of_ble_eq_true rfl, Nat.le_of_ble_eq_true rfl⟩⟩ rfl rfl (Nat.le_of_ble_eq_true rfl) dX6_append_10 ⟨Nat.le_of_ble_eq_true rfl, Nat.le_of_ble_eq_true rfl⟩) (fun H locs hW => ?_)
  refine lv_if_ne (tgt := 22) hx hb dX6_append_13 (by decide) (fun c15 => ?_) (fun c15 => ?_)
  · replace hf := ite_f hf c15
    refine lv_aload_n hx hb dX6_append_22 rfl (lv_at hl 0 rfl) ?_
    refine gf_21_7 X hW (by decide) mw_954 dX6_append_23 ?_
    refine lv_bipush (v := 12) hx hb dX6_append_26 (by decide) ?_
    refine lv_icmp_ne (tgt := 37) hx hb dX6_append_28 (by decide) (fun c11 => ?_) (fun c11 => ?_)
    · replace hf := ite_f hf c11
      refine lv_aload_n hx hb dX6_append_37 rfl (lv_at hl 0 rfl) ?_
      refine gf_21_6 X hW (by decide) mw_953 dX6_append_38 ?_
      refine lv_aload_n hx hb dX6_append_41 rfl (lv_at hl 0 rfl) ?_
      refine gf_21_7 X hW (by decide) mw_954 dX6_append_42 ?_
      refine lv_iload_n hx hb dX6_append_45 rfl (lv_at hl 1 rfl) ?_
      obtain ⟨b5, hf⟩ := chk_ex hf
      obtain ⟨m6, ex, hf⟩ := wth_ex hf
      refine r_iast X hW 26 0 (by decide) (by decide) (fun _ => rfl) b5 dX6_append_46 (fun H locs hW => ?_)
      replace hW := hW.same ex
      clear ex
      refine lv_aload_n hx hb dX6_append_47 rfl (lv_at hl 0 rfl) ?_
      refine lv_dup hx hb dX6_append_48 rfl ?_
      refine gf_21_7 X hW (by decide) mw_954 dX6_append_49 ?_
      refine lv_iconst (v := 1) hx hb dX6_append_52 (by decide) ?_
      refine lv_iadd hx hb dX6_append_53 ?_
      obtain ⟨m7, ex, hf⟩ := wth_ex hf
      refine pf_21_7 X hW (by decide) mw_954 dX6_append_54 (fun H locs hW => ?_)
      replace hW := hW.same ex
      clear ex
      refine lv_aload_n hx hb dX6_append_57 rfl (lv_at hl 0 rfl) ?_
      refine gf_21_7 X hW (by decide) mw_954 dX6_append_58 ?_
      obtain ⟨hf, hm⟩ := prinj hf
      replace hW := hW.same hm.symm
      exact e_i X hr hW (hf) dX6_append_61
    · replace hf := ite_t hf c11
      refine lv_aload_n hx hb dX6_append_31 rfl (lv_at hl 0 rfl) ?_
      refine lv_iconst (v := 2) hx hb dX6_append_32 (by decide) ?_
      obtain ⟨r9, m10, e8, hf⟩ := bn2_ex hf
      refine k_i X hW (k_V (As := [.int 2]) (rest := []) X hW hml hl.1 (c_X6_fails l g hDW  _ m1 _ _ e8) (r_recv X hW 21 0 (by decide) (by decide) rfl rfl) ⟨mw_1019, kw_X6_fails⟩ ⟨⟨rfl, rfl⟩, ko_X6_fails, ⟨Nat.le_of_ble_eq_true rfl, Nat.le_of_ble_eq_true rfl⟩⟩ rfl rfl (Nat.le_of_ble_eq_true rfl) dX6_append_33 ⟨Nat.le_of_ble_eq_true rfl, Nat.le_of_ble_eq_true rfl⟩) (fun H locs hW => ?_)
      obtain ⟨hf, hm⟩ := prinj hf
      replace hW := hW.same hm.symm
      exact e_i X hr hW (hf) dX6_append_36
  · replace hf := ite_t hf c15
    refine lv_aload_n hx hb dX6_append_16 rfl (lv_at hl 0 rfl) ?_
    refine lv_iconst (v := 1) hx hb dX6_append_17 (by decide) ?_
    obtain ⟨r13, m14, e12, hf⟩ := bn2_ex hf
    refine k_i X hW (k_V (As := [.int 1]) (rest := []) X hW hml hl.1 (c_X6_fails l g hDW  _ m1 _ _ e12) (r_recv X hW 21 0 (by decide) (by decide) rfl rfl) ⟨mw_1019, kw_X6_fails⟩ ⟨⟨rfl, rfl⟩, ko_X6_fails, ⟨Nat.le_of_ble_eq_true rfl, Nat.le_of_ble_eq_true rfl⟩⟩ rfl rfl (Nat.le_of_ble_eq_true rfl) dX6_append_18 ⟨Nat.le_of_ble_eq_true rfl, Nat.le_of_ble_eq_true rfl⟩) (fun H locs hW => ?_)
    obtain ⟨hf, hm⟩ := prinj hf
    replace hW := hW.same hm.symm
    exact e_i X hr hW (hf) dX6_append_21
set_option maxRecDepth 100000 in
set_option maxHeartbeats 4000000 in
theorem c_X6_clearBuffer (l : Launch) (g : gG) (hDW : DW g) (mm : gM) (r0 : Int32) (mZ : gM) (hf : fX6_clearBuffer mm = some (r0, mZ)) : Met l yX6_clearBuffer (Cond.code yX6_clearBuffer cX6_clearBuffer 2 (some .int) :: ALLW) rm_X6_clearBuffer (CPre g mm [.ref (ad g 21 0)]) (CI g mZ r0) 0 0 (gA g) := by
  refine Met.ofW (cc := cX6_clearBuffer) (maxL := 2) (ret := (some .int)) (by decide) rfl ?_
  intro p e s m args below meth c s₁ B hml hv
  obtain ⟨ha, hFx, hP0, hlo⟩ := hv
  have X : Cx g p s m args c meth RX6 cX6_clearBuffer := Cx_of hDW hFx hlo B
  have hx := X.1
  have hb := X.2.1
  have hr := B.returns
  have hlocks := X.2.2.2.2.2.2.2
  have hW : Wd g mm s s.heap [] := ⟨hP0, va_S.rf⟩
  rw [ha, lg_entry_eq]
  have hl := lv_entry ([.ref (ad g 21 0)] : List Value) (n := 2) (Nat.le_of_ble_eq_true rfl)
  generalize (lg_sl ([.ref (ad g 21 0)] : List Value) ++ List.replicate (2 - (lg_sl ([.ref (ad g 21 0)] : List Value)).length) Slot.unset).toArray = ls at hl ⊢
  have hl : lv_has ls 2 [(0, .ref (ad g 21 0))] := hl
  rw [← ha]
  show W p l e rm_X6_clearBuffer s m args below meth c s.heap [] 0 0 (MQ below (CI g mZ r0) args s 0 0 (gA g)) (F0 m 0 ls [])
  unfold fX6_clearBuffer at hf
  refine lv_aload_n hx hb dX6_clearBuffer_0 rfl (lv_at hl 0 rfl) ?_
  refine lv_iconst (v := 0) hx hb dX6_clearBuffer_1 (by decide) ?_
  obtain ⟨m1, ex, hf⟩ := wth_ex hf
  refine pf_21_0 X hW (by decide) mw_947 dX6_clearBuffer_2 (fun H locs hW => ?_)
  replace hW := hW.same ex
  clear ex
  refine lv_aload_n hx hb dX6_clearBuffer_5 rfl (lv_at hl 0 rfl) ?_
  refine gf_21_7 X hW (by decide) mw_954 dX6_clearBuffer_6 ?_
  refine lv_istore_n (lv' := [(1, .int (gi m1 21 0 7)), (0, .ref (ad g 21 0))]) hx hb dX6_clearBuffer_9 rfl hl (by decide) rfl (fun ls hl => ?_)
  refine lv_aload_n hx hb dX6_clearBuffer_10 rfl (lv_at hl 1 rfl) ?_
  refine lv_iconst (v := 0) hx hb dX6_clearBuffer_11 (by decide) ?_
  obtain ⟨m2, ex, hf⟩ := wth_ex hf
  refine pf_21_7 X hW (by decide) mw_954 dX6_clearBuffer_12 (fun H locs hW => ?_)
  replace hW := hW.same ex
  clear ex
  refine lv_iload_n hx hb dX6_clearBuffer_15 rfl (lv_at hl 0 rfl) ?_
  obtain ⟨hf, hm⟩ := prinj hf
  replace hW := hW.same hm.symm
  exact e_i X hr hW (hf) dX6_clearBuffer_16
set_option maxRecDepth 100000 in
set_option maxHeartbeats 4000000 in
theorem c_X6_letter (l : Launch) (g : gG) (hDW : DW g) (mm : gM) (r0 : Int32) (hf : fX6_letter mm = some r0) : Met l yX6_letter (Cond.code yX6_letter cX6_letter 1 (some .int) :: ALLW) rm_X6_letter (CPre g mm [.ref (ad g 21 0)]) (CI g mm r0) 0 0 (gA g) := by
  refine Met.ofW (cc := cX6_letter) (maxL := 1) (ret := (some .int)) (by decide) rfl ?_
  intro p e s m args below meth c s₁ B hml hv
  obtain ⟨ha, hFx, hP0, hlo⟩ := hv
  have X : Cx g p s m args c meth RX6 cX6_letter := Cx_of hDW hFx hlo B
  have hx := X.1
  have hb := X.2.1
  have hr := B.returns
  have hlocks := X.2.2.2.2.2.2.2
  have hW : Wd g mm s s.heap [] := ⟨hP0, va_S.rf⟩
  rw [ha, lg_entry_eq]
  have hl := lv_entry ([.ref (ad g 21 0)] : List Value) (n := 1) (Nat.le_of_ble_eq_true rfl)
  generalize (lg_sl ([.ref (ad g 21 0)] : List Value) ++ List.replicate (1 - (lg_sl ([.ref (ad g 21 0)] : List Value)).length) Slot.unset).toArray = ls at hl ⊢
  have hl : lv_has ls 1 [(0, .ref (ad g 21 0))] := hl
  rw [← ha]
  show W p l e rm_X6_letter s m args below meth c s.heap [] 0 0 (MQ below (CI g mm r0) args s 0 0 (gA g)) (F0 m 0 ls [])
  unfold fX6_letter at hf
  refine lv_aload_n hx hb dX6_letter_0 rfl (lv_at hl 0 rfl) ?_
  refine gf_21_8 X hW (by decide) mw_955 dX6_letter_1 ?_
  refine lv_aload_n hx hb dX6_letter_4 rfl (lv_at hl 0 rfl) ?_
  refine gf_21_7 X hW (by decide) mw_954 dX6_letter_5 ?_
  refine lv_icmp_ge (tgt := 23) hx hb dX6_letter_8 (by decide) (fun c2 => ?_) (fun c2 => ?_)
  · replace hf := ite_t hf c2
    refine lv_iconst (v := 0) hx hb dX6_letter_23 (by decide) ?_
    exact e_i X hr hW (someinj hf) dX6_letter_24
  · replace hf := ite_f hf c2
    refine lv_aload_n hx hb dX6_letter_11 rfl (lv_at hl 0 rfl) ?_
    refine gf_21_6 X hW (by decide) mw_953 dX6_letter_12 ?_
    refine lv_aload_n hx hb dX6_letter_15 rfl (lv_at hl 0 rfl) ?_
    refine gf_21_8 X hW (by decide) mw_955 dX6_letter_16 ?_
    obtain ⟨b1, hf⟩ := chk_ex hf
    refine r_iald X hW 26 0 (by decide) (by decide) rfl b1 dX6_letter_19 ?_
    refine lv_goto (tgt := 24) hx hb dX6_letter_20 (by decide) ?_
    exact e_i X hr hW (someinj hf) dX6_letter_24
set_option maxRecDepth 100000 in
set_option maxHeartbeats 4000000 in
theorem c_X6_signOf (l : Launch) (g : gG) (hDW : DW g) (x0 : Int32) (mm : gM) (r0 : Int32) (hf : fX6_signOf x0 = some r0) : Met l yX6_signOf (Cond.code yX6_signOf cX6_signOf 1 (some .int) :: ALLW) rm_X6_signOf (CPre g mm [.int x0]) (CI g mm r0) 0 0 (gA g) := by
  refine Met.ofW (cc := cX6_signOf) (maxL := 1) (ret := (some .int)) (by decide) rfl ?_
  intro p e s m args below meth c s₁ B hml hv
  obtain ⟨ha, hFx, hP0, hlo⟩ := hv
  have X : Cx g p s m args c meth RX6 cX6_signOf := Cx_of hDW hFx hlo B
  have hx := X.1
  have hb := X.2.1
  have hr := B.returns
  have hlocks := X.2.2.2.2.2.2.2
  have hW : Wd g mm s s.heap [] := ⟨hP0, va_S.rf⟩
  rw [ha, lg_entry_eq]
  have hl := lv_entry ([.int x0] : List Value) (n := 1) (Nat.le_of_ble_eq_true rfl)
  generalize (lg_sl ([.int x0] : List Value) ++ List.replicate (1 - (lg_sl ([.int x0] : List Value)).length) Slot.unset).toArray = ls at hl ⊢
  have hl : lv_has ls 1 [(0, .int x0)] := hl
  rw [← ha]
  show W p l e rm_X6_signOf s m args below meth c s.heap [] 0 0 (MQ below (CI g mm r0) args s 0 0 (gA g)) (F0 m 0 ls [])
  unfold fX6_signOf at hf
  refine lv_iload_n hx hb dX6_signOf_0 rfl (lv_at hl 0 rfl) ?_
  refine lv_bipush (v := 48) hx hb dX6_signOf_1 (by decide) ?_
  refine lv_bipush (v := 57) hx hb dX6_signOf_3 (by decide) ?_
  obtain ⟨r2, e1, hf⟩ := bnd_ex hf
  refine k_i X hW (k_S (As := [.int x0, .int 48, .int 57]) (rest := []) X hW hml hl.1 (c_X6_in l g hDW  _ _ _ mm _ e1) ⟨mw_1016, kw_X6_in⟩ ⟨⟨rfl, rfl⟩, ko_X6_in, ⟨Nat.le_of_ble_eq_true rfl, Nat.le_of_ble_eq_true rfl⟩⟩ rfl rfl (Nat.le_of_ble_eq_true rfl) dX6_signOf_5 ⟨Nat.le_of_ble_eq_true rfl, Nat.le_of_ble_eq_true rfl⟩) (fun H locs hW => ?_)
  refine lv_if_eq (tgt := 16) hx hb dX6_signOf_8 (by decide) (fun c10 => ?_) (fun c10 => ?_)
  · replace hf := ite_t hf c10
    refine lv_iload_n hx hb dX6_signOf_16 rfl (lv_at hl 0 rfl) ?_
    refine lv_bipush (v := 65) hx hb dX6_signOf_17 (by decide) ?_
    refine lv_bipush (v := 70) hx hb dX6_signOf_19 (by decide) ?_
    obtain ⟨r5, e4, hf⟩ := bnd_ex hf
    refine k_i X hW (k_S (As := [.int x0, .int 65, .int 70]) (rest := []) X hW hml hl.1 (c_X6_in l g hDW  _ _ _ mm _ e4) ⟨mw_1016, kw_X6_in⟩ ⟨⟨rfl, rfl⟩, ko_X6_in, ⟨Nat.le_of_ble_eq_true rfl, Nat.le_of_ble_eq_true rfl⟩⟩ rfl rfl (Nat.le_of_ble_eq_true rfl) dX6_signOf_21 ⟨Nat.le_of_ble_eq_true rfl, Nat.le_of_ble_eq_true rfl⟩) (fun H locs hW => ?_)
    refine lv_if_eq (tgt := 37) hx hb dX6_signOf_24 (by decide) (fun c9 => ?_) (fun c9 => ?_)
    · replace hf := ite_t hf c9
      refine lv_iload_n hx hb dX6_signOf_37 rfl (lv_at hl 0 rfl) ?_
      refine lv_bipush (v := 45) hx hb dX6_signOf_38 (by decide) ?_
      refine lv_icmp_ne (tgt := 48) hx hb dX6_signOf_40 (by decide) (fun c8 => ?_) (fun c8 => ?_)
      · replace hf := ite_f hf c8
        refine lv_iload_n hx hb dX6_signOf_48 rfl (lv_at hl 0 rfl) ?_
        refine lv_bipush (v := 95) hx hb dX6_signOf_49 (by decide) ?_
        refine lv_icmp_ne (tgt := 59) hx hb dX6_signOf_51 (by decide) (fun c7 => ?_) (fun c7 => ?_)
        · replace hf := ite_f hf c7
          refine lv_iconst (v := -1) hx hb dX6_signOf_59 (by decide) ?_
          exact e_i X hr hW (someinj hf) dX6_signOf_60
        · replace hf := ite_t hf c7
          refine lv_bipush (v := 17) hx hb dX6_signOf_54 (by decide) ?_
          refine lv_goto (tgt := 60) hx hb dX6_signOf_56 (by decide) ?_
          exact e_i X hr hW (someinj hf) dX6_signOf_60
      · replace hf := ite_t hf c8
        refine lv_bipush (v := 16) hx hb dX6_signOf_43 (by decide) ?_
        refine lv_goto (tgt := 60) hx hb dX6_signOf_45 (by decide) ?_
        exact e_i X hr hW (someinj hf) dX6_signOf_60
    · replace hf := ite_f hf c9
      refine lv_iload_n hx hb dX6_signOf_27 rfl (lv_at hl 0 rfl) ?_
      refine lv_bipush (v := 65) hx hb dX6_signOf_28 (by decide) ?_
      refine lv_isub hx hb dX6_signOf_30 ?_
      refine lv_bipush (v := 10) hx hb dX6_signOf_31 (by decide) ?_
      refine lv_iadd hx hb dX6_signOf_33 ?_
      refine lv_goto (tgt := 60) hx hb dX6_signOf_34 (by decide) ?_
      exact e_i X hr hW (someinj hf) dX6_signOf_60
  · replace hf := ite_f hf c10
    refine lv_iload_n hx hb dX6_signOf_11 rfl (lv_at hl 0 rfl) ?_
    refine lv_bipush (v := 48) hx hb dX6_signOf_12 (by decide) ?_
    refine lv_isub hx hb dX6_signOf_14 ?_
    exact e_i X hr hW (someinj hf) dX6_signOf_15
set_option maxRecDepth 100000 in
set_option maxHeartbeats 4000000 in
theorem c_X6_letterOf (l : Launch) (g : gG) (hDW : DW g) (x0 : Int32) (mm : gM) (r0 : Int32) (hf : fX6_letterOf x0 = some r0) : Met l yX6_letterOf (Cond.code yX6_letterOf cX6_letterOf 1 (some .int) :: ALLW) rm_X6_letterOf (CPre g mm [.int x0]) (CI g mm r0) 0 0 (gA g) := by
  refine Met.ofW (cc := cX6_letterOf) (maxL := 1) (ret := (some .int)) (by decide) rfl ?_
  intro p e s m args below meth c s₁ B hml hv
  obtain ⟨ha, hFx, hP0, hlo⟩ := hv
  have X : Cx g p s m args c meth RX6 cX6_letterOf := Cx_of hDW hFx hlo B
  have hx := X.1
  have hb := X.2.1
  have hr := B.returns
  have hlocks := X.2.2.2.2.2.2.2
  have hW : Wd g mm s s.heap [] := ⟨hP0, va_S.rf⟩
  rw [ha, lg_entry_eq]
  have hl := lv_entry ([.int x0] : List Value) (n := 1) (Nat.le_of_ble_eq_true rfl)
  generalize (lg_sl ([.int x0] : List Value) ++ List.replicate (1 - (lg_sl ([.int x0] : List Value)).length) Slot.unset).toArray = ls at hl ⊢
  have hl : lv_has ls 1 [(0, .int x0)] := hl
  rw [← ha]
  show W p l e rm_X6_letterOf s m args below meth c s.heap [] 0 0 (MQ below (CI g mm r0) args s 0 0 (gA g)) (F0 m 0 ls [])
  unfold fX6_letterOf at hf
  refine lv_iload_n hx hb dX6_letterOf_0 rfl (lv_at hl 0 rfl) ?_
  refine lv_iconst (v := -1) hx hb dX6_letterOf_1 (by decide) ?_
  refine lv_icmp_ne (tgt := 8) hx hb dX6_letterOf_2 (by decide) (fun c4 => ?_) (fun c4 => ?_)
  · replace hf := ite_f hf c4
    refine lv_iload_n hx hb dX6_letterOf_8 rfl (lv_at hl 0 rfl) ?_
    refine lv_bipush (v := 10) hx hb dX6_letterOf_9 (by decide) ?_
    refine lv_icmp_ge (tgt := 21) hx hb dX6_letterOf_11 (by decide) (fun c3 => ?_) (fun c3 => ?_)
    · replace hf := ite_t hf c3
      refine lv_iload_n hx hb dX6_letterOf_21 rfl (lv_at hl 0 rfl) ?_
      refine lv_bipush (v := 16) hx hb dX6_letterOf_22 (by decide) ?_
      refine lv_icmp_ge (tgt := 37) hx hb dX6_letterOf_24 (by decide) (fun c2 => ?_) (fun c2 => ?_)
      · replace hf := ite_t hf c2
        refine lv_iload_n hx hb dX6_letterOf_37 rfl (lv_at hl 0 rfl) ?_
        refine lv_bipush (v := 16) hx hb dX6_letterOf_38 (by decide) ?_
        refine lv_icmp_ne (tgt := 48) hx hb dX6_letterOf_40 (by decide) (fun c1 => ?_) (fun c1 => ?_)
        · replace hf := ite_f hf c1
          refine lv_bipush (v := 95) hx hb dX6_letterOf_48 (by decide) ?_
          exact e_i X hr hW (someinj hf) dX6_letterOf_50
        · replace hf := ite_t hf c1
          refine lv_bipush (v := 45) hx hb dX6_letterOf_43 (by decide) ?_
          refine lv_goto (tgt := 50) hx hb dX6_letterOf_45 (by decide) ?_
          exact e_i X hr hW (someinj hf) dX6_letterOf_50
      · replace hf := ite_f hf c2
        refine lv_bipush (v := 65) hx hb dX6_letterOf_27 (by decide) ?_
        refine lv_iload_n hx hb dX6_letterOf_29 rfl (lv_at hl 0 rfl) ?_
        refine lv_iadd hx hb dX6_letterOf_30 ?_
        refine lv_bipush (v := 10) hx hb dX6_letterOf_31 (by decide) ?_
        refine lv_isub hx hb dX6_letterOf_33 ?_
        refine lv_goto (tgt := 50) hx hb dX6_letterOf_34 (by decide) ?_
        exact e_i X hr hW (someinj hf) dX6_letterOf_50
    · replace hf := ite_f hf c3
      refine lv_bipush (v := 48) hx hb dX6_letterOf_14 (by decide) ?_
      refine lv_iload_n hx hb dX6_letterOf_16 rfl (lv_at hl 0 rfl) ?_
      refine lv_iadd hx hb dX6_letterOf_17 ?_
      refine lv_goto (tgt := 50) hx hb dX6_letterOf_18 (by decide) ?_
      exact e_i X hr hW (someinj hf) dX6_letterOf_50
  · replace hf := ite_t hf c4
    refine lv_bipush (v := 63) hx hb dX6_letterOf_5 (by decide) ?_
    exact e_i X hr hW (someinj hf) dX6_letterOf_7
set_option maxRecDepth 100000 in
set_option maxHeartbeats 4000000 in
theorem c_X6_readsSign (l : Launch) (g : gG) (hDW : DW g) (mm : gM) (mZ : gM) (hf : fX6_readsSign mm = some mZ) : Met l yX6_readsSign (Cond.code yX6_readsSign cX6_readsSign 2 none :: ALLW) rm_X6_readsSign (CPre g mm [.ref (ad g 21 0)]) (CV g mZ) 0 0 (gA g) := by
  refine Met.ofW (cc := cX6_readsSign) (maxL := 2) (ret := none) (by decide) rfl ?_
  intro p e s m args below meth c s₁ B hml hv
  obtain ⟨ha, hFx, hP0, hlo⟩ := hv
  have X : Cx g p s m args c meth RX6 cX6_readsSign := Cx_of hDW hFx hlo B
  have hx := X.1
  have hb := X.2.1
  have hr := B.returns
  have hlocks := X.2.2.2.2.2.2.2
  have hW : Wd g mm s s.heap [] := ⟨hP0, va_S.rf⟩
  rw [ha, lg_entry_eq]
  have hl := lv_entry ([.ref (ad g 21 0)] : List Value) (n := 2) (Nat.le_of_ble_eq_true rfl)
  generalize (lg_sl ([.ref (ad g 21 0)] : List Value) ++ List.replicate (2 - (lg_sl ([.ref (ad g 21 0)] : List Value)).length) Slot.unset).toArray = ls at hl ⊢
  have hl : lv_has ls 2 [(0, .ref (ad g 21 0))] := hl
  rw [← ha]
  show W p l e rm_X6_readsSign s m args below meth c s.heap [] 0 0 (MQ below (CV g mZ) args s 0 0 (gA g)) (F0 m 0 ls [])
  have P_127 : ∀ (s1 : Int32) (s2 : Int32) (mm : gM) (H : Heap) (locs : List Loc) (ls : Array Slot), Wd g mm s H locs → lv_has ls 2 [] → jX6_readsSign_127 s1 s2 mm = some mZ → W p l e rm_X6_readsSign s m args below meth c H locs 0 0 (MQ below (CV g mZ) args s 0 0 (gA g)) (F0 m 127 ls [.int s2, .int s1, .ref (ad g 21 0)]) := by
    intro s1 s2 mm H locs ls hW hl hf
    unfold jX6_readsSign_127 at hf
    refine lv_iadd hx hb dX6_readsSign_127 ?_
    obtain ⟨m25, ex, hf⟩ := wth_ex hf
    refine pf_21_12 X hW (by decide) mw_959 dX6_readsSign_128 (fun H locs hW => ?_)
    replace hW := hW.same ex
    clear ex
    replace hW := hW.same (someinj hf).symm
    exact e_v X hr hW dX6_readsSign_131
  have P_91 : ∀ (s1 : Int32) (s2 : Int32) (mm : gM) (H : Heap) (locs : List Loc) (ls : Array Slot), Wd g mm s H locs → lv_has ls 2 [(0, .ref (ad g 21 0))] → jX6_readsSign_91 s1 s2 mm = some mZ → W p l e rm_X6_readsSign s m args below meth c H locs 0 0 (MQ below (CV g mZ) args s 0 0 (gA g)) (F0 m 91 ls [.int s2, .int s1, .ref (ad g 28 0)]) := by
    intro s1 s2 mm H locs ls hW hl hf
    unfold jX6_readsSign_91 at hf
    obtain ⟨b20, hf⟩ := chk_ex hf
    obtain ⟨m21, ex, hf⟩ := wth_ex hf
    refine r_iast X hW 28 0 (by decide) (by decide) (fun _ => rfl) b20 dX6_readsSign_91 (fun H locs hW => ?_)
    replace hW := hW.same ex
    clear ex
    refine lv_aload_n hx hb dX6_readsSign_92 rfl (lv_at hl 0 rfl) ?_
    refine lv_dup hx hb dX6_readsSign_93 rfl ?_
    refine gf_21_8 X hW (by decide) mw_955 dX6_readsSign_94 ?_
    refine lv_aload_n hx hb dX6_readsSign_97 rfl (lv_at hl 0 rfl) ?_
    refine gf_21_11 X hW (by decide) mw_958 dX6_readsSign_98 ?_
    refine lv_aload_n hx hb dX6_readsSign_101 rfl (lv_at hl 0 rfl) ?_
    refine gf_21_12 X hW (by decide) mw_959 dX6_readsSign_102 ?_
    obtain ⟨b22, hf⟩ := chk_ex hf
    refine r_iald X hW 28 0 (by decide) (by decide) rfl b22 dX6_readsSign_105 ?_
    refine lv_iadd hx hb dX6_readsSign_106 ?_
    obtain ⟨m23, ex, hf⟩ := wth_ex hf
    refine pf_21_8 X hW (by decide) mw_955 dX6_readsSign_107 (fun H locs hW => ?_)
    replace hW := hW.same ex
    clear ex
    refine lv_aload_n hx hb dX6_readsSign_110 rfl (lv_at hl 0 rfl) ?_
    refine lv_dup hx hb dX6_readsSign_111 rfl ?_
    refine gf_21_12 X hW (by decide) mw_959 dX6_readsSign_112 ?_
    refine lv_aload_n hx hb dX6_readsSign_115 rfl (lv_at hl 0 rfl) ?_
    refine gf_21_9 X hW (by decide) mw_956 dX6_readsSign_116 ?_
    refine lv_if_eq (tgt := 126) hx hb dX6_readsSign_119 (by decide) (fun c24 => ?_) (fun c24 => ?_)
    · replace hf := ite_t hf c24
      refine lv_iconst (v := 0) hx hb dX6_readsSign_126 (by decide) ?_
      exact P_127 _ _ _ _ _ _ hW (lv_sub hl [] rfl) hf
    · replace hf := ite_f hf c24
      refine lv_iconst (v := 1) hx hb dX6_readsSign_122 (by decide) ?_
      refine lv_goto (tgt := 127) hx hb dX6_readsSign_123 (by decide) ?_
      exact P_127 _ _ _ _ _ _ hW (lv_sub hl [] rfl) hf
  have P_90 : ∀ (s1 : Int32) (mm : gM) (H : Heap) (locs : List Loc) (ls : Array Slot), Wd g mm s H locs → lv_has ls 2 [(0, .ref (ad g 21 0))] → jX6_readsSign_90 s1 mm = some mZ → W p l e rm_X6_readsSign s m args below meth c H locs 0 0 (MQ below (CV g mZ) args s 0 0 (gA g)) (F0 m 90 ls [.int s1, .ref (ad g 28 0)]) := by
    intro s1 mm H locs ls hW hl hf
    unfold jX6_readsSign_90 at hf
    refine lv_iconst (v := 0) hx hb dX6_readsSign_90 (by decide) ?_
    exact P_91 _ _ _ _ _ _ hW (lv_sub hl [0] rfl) hf
  have P_48 : ∀ (x1 : Int32) (s1 : Int32) (s2 : Int32) (mm : gM) (H : Heap) (locs : List Loc) (ls : Array Slot), Wd g mm s H locs → lv_has ls 2 [(0, .ref (ad g 21 0)), (1, .int x1)] → jX6_readsSign_48 x1 s1 s2 mm = some mZ → W p l e rm_X6_readsSign s m args below meth c H locs 0 0 (MQ below (CV g mZ) args s 0 0 (gA g)) (F0 m 48 ls [.int s2, .int s1, .ref (ad g 21 0)]) := by
    intro x1 s1 s2 mm H locs ls hW hl hf
    unfold jX6_readsSign_48 at hf
    refine lv_iadd hx hb dX6_readsSign_48 ?_
    obtain ⟨m12, ex, hf⟩ := wth_ex hf
    refine pf_21_8 X hW (by decide) mw_955 dX6_readsSign_49 (fun H locs hW => ?_)
    replace hW := hW.same ex
    clear ex
    refine lv_aload_n hx hb dX6_readsSign_52 rfl (lv_at hl 0 rfl) ?_
    refine gf_21_10 X hW (by decide) mw_957 dX6_readsSign_53 ?_
    refine lv_aload_n hx hb dX6_readsSign_56 rfl (lv_at hl 0 rfl) ?_
    refine gf_21_12 X hW (by decide) mw_959 dX6_readsSign_57 ?_
    refine lv_iload_n hx hb dX6_readsSign_60 rfl (lv_at hl 1 rfl) ?_
    obtain ⟨b13, hf⟩ := chk_ex hf
    obtain ⟨m14, ex, hf⟩ := wth_ex hf
    refine r_iast X hW 27 0 (by decide) (by decide) (fun _ => rfl) b13 dX6_readsSign_61 (fun H locs hW => ?_)
    replace hW := hW.same ex
    clear ex
    refine lv_aload_n hx hb dX6_readsSign_62 rfl (lv_at hl 0 rfl) ?_
    refine gf_21_11 X hW (by decide) mw_958 dX6_readsSign_63 ?_
    refine lv_aload_n hx hb dX6_readsSign_66 rfl (lv_at hl 0 rfl) ?_
    refine gf_21_12 X hW (by decide) mw_959 dX6_readsSign_67 ?_
    refine lv_aload_n hx hb dX6_readsSign_70 rfl (lv_at hl 0 rfl) ?_
    refine gf_21_9 X hW (by decide) mw_956 dX6_readsSign_71 ?_
    refine lv_if_eq (tgt := 90) hx hb dX6_readsSign_74 (by decide) (fun c19 => ?_) (fun c19 => ?_)
    · replace hf := ite_t hf c19
      exact P_90 _ _ _ _ _ hW (lv_sub hl [0] rfl) hf
    · replace hf := ite_f hf c19
      refine lv_aload_n hx hb dX6_readsSign_77 rfl (lv_at hl 0 rfl) ?_
      obtain ⟨r16, e15, hf⟩ := bnd_ex hf
      refine k_i X hW (k_V (As := []) (rest := [.int (gi m14 21 0 12), .ref (ad g 28 0)]) X hW hml hl.1 (c_X6_letter l g hDW   m14 _ e15) (r_recv X hW 21 0 (by decide) (by decide) rfl rfl) ⟨mw_1145, kw_X6_letter⟩ ⟨⟨rfl, rfl⟩, ko_X6_letter, ⟨Nat.le_of_ble_eq_true rfl, Nat.le_of_ble_eq_true rfl⟩⟩ rfl rfl (Nat.le_of_ble_eq_true rfl) dX6_readsSign_78 ⟨Nat.le_of_ble_eq_true rfl, Nat.le_of_ble_eq_true rfl⟩) (fun H locs hW => ?_)
      refine lv_bipush (v := 46) hx hb dX6_readsSign_81 (by decide) ?_
      refine lv_icmp_ne (tgt := 90) hx hb dX6_readsSign_83 (by decide) (fun c18 => ?_) (fun c18 => ?_)
      · replace hf := ite_f hf c18
        exact P_90 _ _ _ _ _ hW (lv_sub hl [0] rfl) hf
      · replace hf := ite_t hf c18
        refine lv_iconst (v := 1) hx hb dX6_readsSign_86 (by decide) ?_
        refine lv_goto (tgt := 91) hx hb dX6_readsSign_87 (by decide) ?_
        exact P_91 _ _ _ _ _ _ hW (lv_sub hl [0] rfl) hf
  have P_28 : ∀ (x1 : Int32) (s1 : Int32) (mm : gM) (H : Heap) (locs : List Loc) (ls : Array Slot), Wd g mm s H locs → lv_has ls 2 [(0, .ref (ad g 21 0)), (1, .int x1)] → jX6_readsSign_28 x1 s1 mm = some mZ → W p l e rm_X6_readsSign s m args below meth c H locs 0 0 (MQ below (CV g mZ) args s 0 0 (gA g)) (F0 m 28 ls [.int s1, .ref (ad g 21 0)]) := by
    intro x1 s1 mm H locs ls hW hl hf
    unfold jX6_readsSign_28 at hf
    obtain ⟨b10, hf⟩ := chk_ex hf
    obtain ⟨m9, ex, hf⟩ := wth_ex hf
    refine pf_21_9 X hW (by decide) b10 mw_956 dX6_readsSign_28 (fun H locs hW => ?_)
    replace hW := hW.same ex
    clear ex
    refine lv_aload_n hx hb dX6_readsSign_31 rfl (lv_at hl 0 rfl) ?_
    refine lv_dup hx hb dX6_readsSign_32 rfl ?_
    refine gf_21_8 X hW (by decide) mw_955 dX6_readsSign_33 ?_
    refine lv_aload_n hx hb dX6_readsSign_36 rfl (lv_at hl 0 rfl) ?_
    refine gf_21_9 X hW (by decide) mw_956 dX6_readsSign_37 ?_
    refine lv_if_eq (tgt := 47) hx hb dX6_readsSign_40 (by decide) (fun c11 => ?_) (fun c11 => ?_)
    · replace hf := ite_t hf c11
      refine lv_iconst (v := 0) hx hb dX6_readsSign_47 (by decide) ?_
      exact P_48 _ _ _ _ _ _ _ hW (lv_sub hl [0, 1] rfl) hf
    · replace hf := ite_f hf c11
      refine lv_iconst (v := 1) hx hb dX6_readsSign_43 (by decide) ?_
      refine lv_goto (tgt := 48) hx hb dX6_readsSign_44 (by decide) ?_
      exact P_48 _ _ _ _ _ _ _ hW (lv_sub hl [0, 1] rfl) hf
  have P_27 : ∀ (x1 : Int32) (mm : gM) (H : Heap) (locs : List Loc) (ls : Array Slot), Wd g mm s H locs → lv_has ls 2 [(0, .ref (ad g 21 0)), (1, .int x1)] → jX6_readsSign_27 x1 mm = some mZ → W p l e rm_X6_readsSign s m args below meth c H locs 0 0 (MQ below (CV g mZ) args s 0 0 (gA g)) (F0 m 27 ls [.ref (ad g 21 0)]) := by
    intro x1 mm H locs ls hW hl hf
    unfold jX6_readsSign_27 at hf
    refine lv_iconst (v := 0) hx hb dX6_readsSign_27 (by decide) ?_
    exact P_28 _ _ _ _ _ _ hW (lv_sub hl [0, 1] rfl) hf
  unfold fX6_readsSign at hf
  refine lv_aload_n hx hb dX6_readsSign_0 rfl (lv_at hl 0 rfl) ?_
  obtain ⟨r2, e1, hf⟩ := bnd_ex hf
  refine k_i X hW (k_V (As := []) (rest := []) X hW hml hl.1 (c_X6_letter l g hDW   mm _ e1) (r_recv X hW 21 0 (by decide) (by decide) rfl rfl) ⟨mw_1145, kw_X6_letter⟩ ⟨⟨rfl, rfl⟩, ko_X6_letter, ⟨Nat.le_of_ble_eq_true rfl, Nat.le_of_ble_eq_true rfl⟩⟩ rfl rfl (Nat.le_of_ble_eq_true rfl) dX6_readsSign_1 ⟨Nat.le_of_ble_eq_true rfl, Nat.le_of_ble_eq_true rfl⟩) (fun H locs hW => ?_)
  obtain ⟨r5, e4, hf⟩ := bnd_ex hf
  refine k_i X hW (k_S (As := [.int r2]) (rest := []) X hW hml hl.1 (c_X6_signOf l g hDW  _ mm _ e4) ⟨mw_1149, kw_X6_signOf⟩ ⟨⟨rfl, rfl⟩, ko_X6_signOf, ⟨Nat.le_of_ble_eq_true rfl, Nat.le_of_ble_eq_true rfl⟩⟩ rfl rfl (Nat.le_of_ble_eq_true rfl) dX6_readsSign_4 ⟨Nat.le_of_ble_eq_true rfl, Nat.le_of_ble_eq_true rfl⟩) (fun H locs hW => ?_)
  refine lv_istore_n (lv' := [(1, .int r5), (0, .ref (ad g 21 0))]) hx hb dX6_readsSign_7 rfl hl (by decide) rfl (fun ls hl => ?_)
  refine lv_aload_n hx hb dX6_readsSign_8 rfl (lv_at hl 1 rfl) ?_
  refine lv_iload_n hx hb dX6_readsSign_9 rfl (lv_at hl 0 rfl) ?_
  refine lv_iconst (v := -1) hx hb dX6_readsSign_10 (by decide) ?_
  refine lv_icmp_eq (tgt := 27) hx hb dX6_readsSign_11 (by decide) (fun c8 => ?_) (fun c8 => ?_)
  · replace hf := ite_t hf c8
    exact P_27 _ _ _ _ _ hW (lv_sub hl [1, 0] rfl) hf
  · replace hf := ite_f hf c8
    refine lv_aload_n hx hb dX6_readsSign_14 rfl (lv_at hl 1 rfl) ?_
    refine gf_21_12 X hW (by decide) mw_959 dX6_readsSign_15 ?_
    refine lv_bipush (v := 6) hx hb dX6_readsSign_18 (by decide) ?_
    refine lv_icmp_ge (tgt := 27) hx hb dX6_readsSign_20 (by decide) (fun c7 => ?_) (fun c7 => ?_)
    · replace hf := ite_t hf c7
      exact P_27 _ _ _ _ _ hW (lv_sub hl [1, 0] rfl) hf
    · replace hf := ite_f hf c7
      refine lv_iconst (v := 1) hx hb dX6_readsSign_23 (by decide) ?_
      refine lv_goto (tgt := 28) hx hb dX6_readsSign_24 (by decide) ?_
      exact P_28 _ _ _ _ _ _ hW (lv_sub hl [1, 0] rfl) hf
set_option maxRecDepth 100000 in
set_option maxHeartbeats 4000000 in
theorem c_X6_readsAll (l : Launch) (g : gG) (hDW : DW g) (mm : gM) (mZ : gM) (hf : fX6_readsAll mm = some mZ) : Met l yX6_readsAll (Cond.code yX6_readsAll cX6_readsAll 1 none :: ALLW) rm_X6_readsAll (CPre g mm [.ref (ad g 21 0)]) (CV g mZ) 0 0 (gA g) := by
  refine Met.ofW (cc := cX6_readsAll) (maxL := 1) (ret := none) (by decide) rfl ?_
  intro p e s m args below meth c s₁ B hml hv
  obtain ⟨ha, hFx, hP0, hlo⟩ := hv
  have X : Cx g p s m args c meth RX6 cX6_readsAll := Cx_of hDW hFx hlo B
  have hx := X.1
  have hb := X.2.1
  have hr := B.returns
  have hlocks := X.2.2.2.2.2.2.2
  have hW : Wd g mm s s.heap [] := ⟨hP0, va_S.rf⟩
  rw [ha, lg_entry_eq]
  have hl := lv_entry ([.ref (ad g 21 0)] : List Value) (n := 1) (Nat.le_of_ble_eq_true rfl)
  generalize (lg_sl ([.ref (ad g 21 0)] : List Value) ++ List.replicate (1 - (lg_sl ([.ref (ad g 21 0)] : List Value)).length) Slot.unset).toArray = ls at hl ⊢
  have hl : lv_has ls 1 [(0, .ref (ad g 21 0))] := hl
  rw [← ha]
  show W p l e rm_X6_readsAll s m args below meth c s.heap [] 0 0 (MQ below (CV g mZ) args s 0 0 (gA g)) (F0 m 0 ls [])
  have P_14 : ∀ (n14 : Nat) (mm : gM) (H : Heap) (locs : List Loc) (ls : Array Slot), Wd g mm s H locs → lv_has ls 1 [(0, .ref (ad g 21 0))] → lX6_readsAll_14 n14 mm = some mZ → W p l e rm_X6_readsAll s m args below meth c H locs 0 0 (MQ below (CV g mZ) args s 0 0 (gA g)) (F0 m 14 ls []) := by
    intro n14
    induction n14 with
    | zero => intro mm H locs ls hW hl hf; exact (no_some hf).elim
    | succ n14 ih_14 =>
      intro mm H locs ls hW hl hf
      rw [lX6_readsAll_14_s] at hf
      refine lv_aload_n hx hb dX6_readsAll_14 rfl (lv_at hl 0 rfl) ?_
      refine gf_21_9 X hW (by decide) mw_956 dX6_readsAll_15 ?_
      refine lv_if_eq (tgt := 39) hx hb dX6_readsAll_18 (by decide) (fun c10 => ?_) (fun c10 => ?_)
      · replace hf := ite_t hf c10
        replace hW := hW.same (someinj hf).symm
        exact e_v X hr hW dX6_readsAll_39
      · replace hf := ite_f hf c10
        refine lv_aload_n hx hb dX6_readsAll_21 rfl (lv_at hl 0 rfl) ?_
        refine gf_21_8 X hW (by decide) mw_955 dX6_readsAll_22 ?_
        refine lv_aload_n hx hb dX6_readsAll_25 rfl (lv_at hl 0 rfl) ?_
        refine gf_21_7 X hW (by decide) mw_954 dX6_readsAll_26 ?_
        refine lv_icmp_ge (tgt := 39) hx hb dX6_readsAll_29 (by decide) (fun c9 => ?_) (fun c9 => ?_)
        · replace hf := ite_t hf c9
          replace hW := hW.same (someinj hf).symm
          exact e_v X hr hW dX6_readsAll_39
        · replace hf := ite_f hf c9
          refine lv_aload_n hx hb dX6_readsAll_32 rfl (lv_at hl 0 rfl) ?_
          obtain ⟨m8, e6, hf⟩ := bnd_ex hf
          refine k_v X hW (k_V (As := []) (rest := []) X hW hml hl.1 (c_X6_readsSign l g hDW   mm _ e6) (r_recv X hW 21 0 (by decide) (by decide) rfl rfl) ⟨mw_1141, kw_X6_readsSign⟩ ⟨⟨rfl, rfl⟩, ko_X6_readsSign, ⟨Nat.le_of_ble_eq_true rfl, Nat.le_of_ble_eq_true rfl⟩⟩ rfl rfl (Nat.le_of_ble_eq_true rfl) dX6_readsAll_33 ⟨Nat.le_of_ble_eq_true rfl, Nat.le_of_ble_eq_true rfl⟩) (fun H locs hW => ?_)
          refine lv_goto (tgt := 14) hx hb dX6_readsAll_36 (by decide) ?_
          exact ih_14 _ _ _ _ hW (lv_sub hl [0] rfl) hf
  unfold fX6_readsAll at hf
  refine lv_aload_n hx hb dX6_readsAll_0 rfl (lv_at hl 0 rfl) ?_
  refine lv_iconst (v := 0) hx hb dX6_readsAll_1 (by decide) ?_
  obtain ⟨m1, ex, hf⟩ := wth_ex hf
  refine pf_21_8 X hW (by decide) mw_955 dX6_readsAll_2 (fun H locs hW => ?_)
  replace hW := hW.same ex
  clear ex
  refine lv_aload_n hx hb dX6_readsAll_5 rfl (lv_at hl 0 rfl) ?_
  refine lv_iconst (v := 0) hx hb dX6_readsAll_6 (by decide) ?_
  obtain ⟨m2, ex, hf⟩ := wth_ex hf
  refine pf_21_12 X hW (by decide) mw_959 dX6_readsAll_7 (fun H locs hW => ?_)
  replace hW := hW.same ex
  clear ex
  refine lv_aload_n hx hb dX6_readsAll_10 rfl (lv_at hl 0 rfl) ?_
  obtain ⟨m5, e3, hf⟩ := bnd_ex hf
  refine k_v X hW (k_V (As := []) (rest := []) X hW hml hl.1 (c_X6_readsSign l g hDW   m2 _ e3) (r_recv X hW 21 0 (by decide) (by decide) rfl rfl) ⟨mw_1141, kw_X6_readsSign⟩ ⟨⟨rfl, rfl⟩, ko_X6_readsSign, ⟨Nat.le_of_ble_eq_true rfl, Nat.le_of_ble_eq_true rfl⟩⟩ rfl rfl (Nat.le_of_ble_eq_true rfl) dX6_readsAll_11 ⟨Nat.le_of_ble_eq_true rfl, Nat.le_of_ble_eq_true rfl⟩) (fun H locs hW => ?_)
  exact P_14 _ _ _ _ _ hW (lv_sub hl [0] rfl) hf
set_option maxRecDepth 100000 in
set_option maxHeartbeats 4000000 in
theorem c_X6_firstError (l : Launch) (g : gG) (hDW : DW g) (mm : gM) (r0 : Int32) (mZ : gM) (hf : fX6_firstError mm = some (r0, mZ)) : Met l yX6_firstError (Cond.code yX6_firstError cX6_firstError 1 (some .int) :: ALLW) rm_X6_firstError (CPre g mm [.ref (ad g 21 0)]) (CI g mZ r0) 0 0 (gA g) := by
  refine Met.ofW (cc := cX6_firstError) (maxL := 1) (ret := (some .int)) (by decide) rfl ?_
  intro p e s m args below meth c s₁ B hml hv
  obtain ⟨ha, hFx, hP0, hlo⟩ := hv
  have X : Cx g p s m args c meth RX6 cX6_firstError := Cx_of hDW hFx hlo B
  have hx := X.1
  have hb := X.2.1
  have hr := B.returns
  have hlocks := X.2.2.2.2.2.2.2
  have hW : Wd g mm s s.heap [] := ⟨hP0, va_S.rf⟩
  rw [ha, lg_entry_eq]
  have hl := lv_entry ([.ref (ad g 21 0)] : List Value) (n := 1) (Nat.le_of_ble_eq_true rfl)
  generalize (lg_sl ([.ref (ad g 21 0)] : List Value) ++ List.replicate (1 - (lg_sl ([.ref (ad g 21 0)] : List Value)).length) Slot.unset).toArray = ls at hl ⊢
  have hl : lv_has ls 1 [(0, .ref (ad g 21 0))] := hl
  rw [← ha]
  show W p l e rm_X6_firstError s m args below meth c s.heap [] 0 0 (MQ below (CI g mZ r0) args s 0 0 (gA g)) (F0 m 0 ls [])
  unfold fX6_firstError at hf
  refine lv_aload_n hx hb dX6_firstError_0 rfl (lv_at hl 0 rfl) ?_
  refine lv_iconst (v := 0) hx hb dX6_firstError_1 (by decide) ?_
  obtain ⟨m1, ex, hf⟩ := wth_ex hf
  refine pf_21_0 X hW (by decide) mw_947 dX6_firstError_2 (fun H locs hW => ?_)
  replace hW := hW.same ex
  clear ex
  refine lv_aload_n hx hb dX6_firstError_5 rfl (lv_at hl 0 rfl) ?_
  obtain ⟨m4, e2, hf⟩ := bnd_ex hf
  refine k_v X hW (k_V (As := []) (rest := []) X hW hml hl.1 (c_X6_readsAll l g hDW   m1 _ e2) (r_recv X hW 21 0 (by decide) (by decide) rfl rfl) ⟨mw_1137, kw_X6_readsAll⟩ ⟨⟨rfl, rfl⟩, ko_X6_readsAll, ⟨Nat.le_of_ble_eq_true rfl, Nat.le_of_ble_eq_true rfl⟩⟩ rfl rfl (Nat.le_of_ble_eq_true rfl) dX6_firstError_6 ⟨Nat.le_of_ble_eq_true rfl, Nat.le_of_ble_eq_true rfl⟩) (fun H locs hW => ?_)
  refine lv_aload_n hx hb dX6_firstError_9 rfl (lv_at hl 0 rfl) ?_
  refine gf_21_8 X hW (by decide) mw_955 dX6_firstError_10 ?_
  obtain ⟨hf, hm⟩ := prinj hf
  replace hW := hW.same hm.symm
  exact e_i X hr hW (hf) dX6_firstError_13
set_option maxRecDepth 100000 in
set_option maxHeartbeats 4000000 in
theorem c_X6_load (l : Launch) (g : gG) (hDW : DW g) (mm : gM) (r0 : Int32) (mZ : gM) (hf : fX6_load mm = some (r0, mZ)) : Met l yX6_load (Cond.code yX6_load cX6_load 2 (some .int) :: ALLW) rm_X6_load (CPre g mm [.ref (ad g 21 0)]) (CI g mZ r0) 0 0 (gA g) := by
  refine Met.ofW (cc := cX6_load) (maxL := 2) (ret := (some .int)) (by decide) rfl ?_
  intro p e s m args below meth c s₁ B hml hv
  obtain ⟨ha, hFx, hP0, hlo⟩ := hv
  have X : Cx g p s m args c meth RX6 cX6_load := Cx_of hDW hFx hlo B
  have hx := X.1
  have hb := X.2.1
  have hr := B.returns
  have hlocks := X.2.2.2.2.2.2.2
  have hW : Wd g mm s s.heap [] := ⟨hP0, va_S.rf⟩
  rw [ha, lg_entry_eq]
  have hl := lv_entry ([.ref (ad g 21 0)] : List Value) (n := 2) (Nat.le_of_ble_eq_true rfl)
  generalize (lg_sl ([.ref (ad g 21 0)] : List Value) ++ List.replicate (2 - (lg_sl ([.ref (ad g 21 0)] : List Value)).length) Slot.unset).toArray = ls at hl ⊢
  have hl : lv_has ls 2 [(0, .ref (ad g 21 0))] := hl
  rw [← ha]
  show W p l e rm_X6_load s m args below meth c s.heap [] 0 0 (MQ below (CI g mZ r0) args s 0 0 (gA g)) (F0 m 0 ls [])
  have P_33 : ∀ (n33 : Nat) (x1 : Int32) (mm : gM) (H : Heap) (locs : List Loc) (ls : Array Slot), Wd g mm s H locs → lv_has ls 2 [(0, .ref (ad g 21 0)), (1, .int x1)] → lX6_load_33 n33 x1 mm = some (r0, mZ) → W p l e rm_X6_load s m args below meth c H locs 0 0 (MQ below (CI g mZ r0) args s 0 0 (gA g)) (F0 m 33 ls []) := by
    intro n33
    induction n33 with
    | zero => intro x1 mm H locs ls hW hl hf; exact (no_some hf).elim
    | succ n33 ih_33 =>
      have P_85 : ∀ (x1 : Int32) (s1 : Int32) (s2 : Int32) (s3 : Int32) (mm : gM) (H : Heap) (locs : List Loc) (ls : Array Slot), Wd g mm s H locs → lv_has ls 2 [(0, .ref (ad g 21 0)), (1, .int x1)] → jX6_load_85 (lX6_load_33 n33) x1 s1 s2 s3 mm = some (r0, mZ) → W p l e rm_X6_load s m args below meth c H locs 0 0 (MQ below (CI g mZ r0) args s 0 0 (gA g)) (F0 m 85 ls [.int s3, .int s2, .int s1, .ref (ad g 21 0)]) := by
        intro x1 s1 s2 s3 mm H locs ls hW hl hf
        unfold jX6_load_85 at hf
        obtain ⟨m23, e21, hf⟩ := bnd_ex hf
        refine k_v X hW (k_V (As := [.int s1, .int s2, .int s3]) (rest := []) X hW hml hl.1 (c_X6_lay l g hDW  _ _ _ mm _ e21) (r_recv X hW 21 0 (by decide) (by decide) rfl rfl) ⟨mw_943, kw_X6_lay⟩ ⟨⟨rfl, rfl⟩, ko_X6_lay, ⟨Nat.le_of_ble_eq_true rfl, Nat.le_of_ble_eq_true rfl⟩⟩ rfl rfl (Nat.le_of_ble_eq_true rfl) dX6_load_85 ⟨Nat.le_of_ble_eq_true rfl, Nat.le_of_ble_eq_true rfl⟩) (fun H locs hW => ?_)
        refine lv_iinc (v := x1 + 1) (lv' := [(1, .int (x1 + 1)), (0, .ref (ad g 21 0))]) hx hb dX6_load_88 hl (k := 1) rfl rfl (by decide) rfl (fun ls hl => ?_)
        refine lv_goto (tgt := 33) hx hb dX6_load_91 (by decide) ?_
        exact ih_33 _ _ _ _ _ hW (lv_sub hl [1, 0] rfl) hf
      have P_61 : ∀ (x1 : Int32) (s1 : Int32) (s2 : Int32) (s3 : Int32) (mm : gM) (H : Heap) (locs : List Loc) (ls : Array Slot), Wd g mm s H locs → lv_has ls 2 [(0, .ref (ad g 21 0)), (1, .int x1)] → jX6_load_61 (lX6_load_33 n33) x1 s1 s2 s3 mm = some (r0, mZ) → W p l e rm_X6_load s m args below meth c H locs 0 0 (MQ below (CI g mZ r0) args s 0 0 (gA g)) (F0 m 61 ls [.int s3, .int s2, .int s1, .ref (ad g 21 0)]) := by
        intro x1 s1 s2 s3 mm H locs ls hW hl hf
        unfold jX6_load_61 at hf
        obtain ⟨m18, e16, hf⟩ := bnd_ex hf
        refine k_v X hW (k_V (As := [.int s1, .int s2, .int s3]) (rest := []) X hW hml hl.1 (c_X6_lay l g hDW  _ _ _ mm _ e16) (r_recv X hW 21 0 (by decide) (by decide) rfl rfl) ⟨mw_943, kw_X6_lay⟩ ⟨⟨rfl, rfl⟩, ko_X6_lay, ⟨Nat.le_of_ble_eq_true rfl, Nat.le_of_ble_eq_true rfl⟩⟩ rfl rfl (Nat.le_of_ble_eq_true rfl) dX6_load_61 ⟨Nat.le_of_ble_eq_true rfl, Nat.le_of_ble_eq_true rfl⟩) (fun H locs hW => ?_)
        refine lv_aload_n hx hb dX6_load_64 rfl (lv_at hl 0 rfl) ?_
        refine lv_iload_n hx hb dX6_load_65 rfl (lv_at hl 1 rfl) ?_
        refine lv_iconst (v := 1) hx hb dX6_load_66 (by decide) ?_
        refine lv_iload_n hx hb dX6_load_67 rfl (lv_at hl 1 rfl) ?_
        refine lv_aload_n hx hb dX6_load_68 rfl (lv_at hl 0 rfl) ?_
        refine gf_21_12 X hW (by decide) mw_959 dX6_load_69 ?_
        refine lv_icmp_ge (tgt := 84) hx hb dX6_load_72 (by decide) (fun c20 => ?_) (fun c20 => ?_)
        · replace hf := ite_t hf c20
          refine lv_iconst (v := 0) hx hb dX6_load_84 (by decide) ?_
          exact P_85 _ _ _ _ _ _ _ _ hW (lv_sub hl [0, 1] rfl) hf
        · replace hf := ite_f hf c20
          refine lv_aload_n hx hb dX6_load_75 rfl (lv_at hl 0 rfl) ?_
          refine gf_21_11 X hW (by decide) mw_958 dX6_load_76 ?_
          refine lv_iload_n hx hb dX6_load_79 rfl (lv_at hl 1 rfl) ?_
          obtain ⟨b19, hf⟩ := chk_ex hf
          refine r_iald X hW 28 0 (by decide) (by decide) rfl b19 dX6_load_80 ?_
          refine lv_goto (tgt := 85) hx hb dX6_load_81 (by decide) ?_
          exact P_85 _ _ _ _ _ _ _ _ hW (lv_sub hl [0, 1] rfl) hf
      intro x1 mm H locs ls hW hl hf
      rw [lX6_load_33_s] at hf
      refine lv_iload_n hx hb dX6_load_33 rfl (lv_at hl 1 rfl) ?_
      refine lv_bipush (v := 6) hx hb dX6_load_34 (by decide) ?_
      refine lv_icmp_ge (tgt := 94) hx hb dX6_load_36 (by decide) (fun c15 => ?_) (fun c15 => ?_)
      · replace hf := ite_t hf c15
        refine lv_aload_n hx hb dX6_load_94 rfl (lv_at hl 0 rfl) ?_
        refine gf_21_12 X hW (by decide) mw_959 dX6_load_95 ?_
        obtain ⟨hf, hm⟩ := prinj hf
        replace hW := hW.same hm.symm
        exact e_i X hr hW (hf) dX6_load_98
      · replace hf := ite_f hf c15
        refine lv_aload_n hx hb dX6_load_39 rfl (lv_at hl 0 rfl) ?_
        refine lv_iload_n hx hb dX6_load_40 rfl (lv_at hl 1 rfl) ?_
        refine lv_iconst (v := 0) hx hb dX6_load_41 (by decide) ?_
        refine lv_iload_n hx hb dX6_load_42 rfl (lv_at hl 1 rfl) ?_
        refine lv_aload_n hx hb dX6_load_43 rfl (lv_at hl 0 rfl) ?_
        refine gf_21_12 X hW (by decide) mw_959 dX6_load_44 ?_
        refine lv_icmp_ge (tgt := 59) hx hb dX6_load_47 (by decide) (fun c14 => ?_) (fun c14 => ?_)
        · replace hf := ite_t hf c14
          refine lv_bipush (v := 17) hx hb dX6_load_59 (by decide) ?_
          exact P_61 _ _ _ _ _ _ _ _ hW (lv_sub hl [0, 1] rfl) hf
        · replace hf := ite_f hf c14
          refine lv_aload_n hx hb dX6_load_50 rfl (lv_at hl 0 rfl) ?_
          refine gf_21_10 X hW (by decide) mw_957 dX6_load_51 ?_
          refine lv_iload_n hx hb dX6_load_54 rfl (lv_at hl 1 rfl) ?_
          obtain ⟨b13, hf⟩ := chk_ex hf
          refine r_iald X hW 27 0 (by decide) (by decide) rfl b13 dX6_load_55 ?_
          refine lv_goto (tgt := 61) hx hb dX6_load_56 (by decide) ?_
          exact P_61 _ _ _ _ _ _ _ _ hW (lv_sub hl [0, 1] rfl) hf
  unfold fX6_load at hf
  refine lv_aload_n hx hb dX6_load_0 rfl (lv_at hl 0 rfl) ?_
  refine lv_iconst (v := 0) hx hb dX6_load_1 (by decide) ?_
  obtain ⟨m1, ex, hf⟩ := wth_ex hf
  refine pf_21_0 X hW (by decide) mw_947 dX6_load_2 (fun H locs hW => ?_)
  replace hW := hW.same ex
  clear ex
  refine lv_aload_n hx hb dX6_load_5 rfl (lv_at hl 0 rfl) ?_
  obtain ⟨m4, e2, hf⟩ := bnd_ex hf
  refine k_v X hW (k_V (As := []) (rest := []) X hW hml hl.1 (c_X6_readsAll l g hDW   m1 _ e2) (r_recv X hW 21 0 (by decide) (by decide) rfl rfl) ⟨mw_1137, kw_X6_readsAll⟩ ⟨⟨rfl, rfl⟩, ko_X6_readsAll, ⟨Nat.le_of_ble_eq_true rfl, Nat.le_of_ble_eq_true rfl⟩⟩ rfl rfl (Nat.le_of_ble_eq_true rfl) dX6_load_6 ⟨Nat.le_of_ble_eq_true rfl, Nat.le_of_ble_eq_true rfl⟩) (fun H locs hW => ?_)
  refine lv_aload_n hx hb dX6_load_9 rfl (lv_at hl 0 rfl) ?_
  refine gf_21_9 X hW (by decide) mw_956 dX6_load_10 ?_
  refine lv_if_ne (tgt := 22) hx hb dX6_load_13 (by decide) (fun c12 => ?_) (fun c12 => ?_)
  · replace hf := ite_f hf c12
    refine lv_aload_n hx hb dX6_load_22 rfl (lv_at hl 0 rfl) ?_
    obtain ⟨m7, e5, hf⟩ := bnd_ex hf
    refine k_v X hW (k_V (As := []) (rest := []) X hW hml hl.1 (c_X6_saves l g hDW   m4 _ e5) (r_recv X hW 21 0 (by decide) (by decide) rfl rfl) ⟨mw_1023, kw_X6_saves⟩ ⟨⟨rfl, rfl⟩, ko_X6_saves, ⟨Nat.le_of_ble_eq_true rfl, Nat.le_of_ble_eq_true rfl⟩⟩ rfl rfl (Nat.le_of_ble_eq_true rfl) dX6_load_23 ⟨Nat.le_of_ble_eq_true rfl, Nat.le_of_ble_eq_true rfl⟩) (fun H locs hW => ?_)
    refine lv_aload_n hx hb dX6_load_26 rfl (lv_at hl 0 rfl) ?_
    refine lv_iconst (v := 0) hx hb dX6_load_27 (by decide) ?_
    obtain ⟨m8, ex, hf⟩ := wth_ex hf
    refine pf_21_7 X hW (by decide) mw_954 dX6_load_28 (fun H locs hW => ?_)
    replace hW := hW.same ex
    clear ex
    refine lv_iconst (v := 0) hx hb dX6_load_31 (by decide) ?_
    refine lv_istore_n (lv' := [(1, .int 0), (0, .ref (ad g 21 0))]) hx hb dX6_load_32 rfl hl (by decide) rfl (fun ls hl => ?_)
    exact P_33 _ _ _ _ _ _ hW (lv_sub hl [1, 0] rfl) hf
  · replace hf := ite_t hf c12
    refine lv_aload_n hx hb dX6_load_16 rfl (lv_at hl 0 rfl) ?_
    refine lv_iconst (v := 1) hx hb dX6_load_17 (by decide) ?_
    obtain ⟨r10, m11, e9, hf⟩ := bn2_ex hf
    refine k_i X hW (k_V (As := [.int 1]) (rest := []) X hW hml hl.1 (c_X6_fails l g hDW  _ m4 _ _ e9) (r_recv X hW 21 0 (by decide) (by decide) rfl rfl) ⟨mw_1019, kw_X6_fails⟩ ⟨⟨rfl, rfl⟩, ko_X6_fails, ⟨Nat.le_of_ble_eq_true rfl, Nat.le_of_ble_eq_true rfl⟩⟩ rfl rfl (Nat.le_of_ble_eq_true rfl) dX6_load_18 ⟨Nat.le_of_ble_eq_true rfl, Nat.le_of_ble_eq_true rfl⟩) (fun H locs hW => ?_)
    obtain ⟨hf, hm⟩ := prinj hf
    replace hW := hW.same hm.symm
    exact e_i X hr hW (hf) dX6_load_21
set_option maxRecDepth 100000 in
set_option maxHeartbeats 4000000 in
theorem c_X6_write (l : Launch) (g : gG) (hDW : DW g) (mm : gM) (r0 : Int32) (mZ : gM) (hf : fX6_write mm = some (r0, mZ)) : Met l yX6_write (Cond.code yX6_write cX6_write 2 (some .int) :: ALLW) rm_X6_write (CPre g mm [.ref (ad g 21 0)]) (CI g mZ r0) 0 0 (gA g) := by
  refine Met.ofW (cc := cX6_write) (maxL := 2) (ret := (some .int)) (by decide) rfl ?_
  intro p e s m args below meth c s₁ B hml hv
  obtain ⟨ha, hFx, hP0, hlo⟩ := hv
  have X : Cx g p s m args c meth RX6 cX6_write := Cx_of hDW hFx hlo B
  have hx := X.1
  have hb := X.2.1
  have hr := B.returns
  have hlocks := X.2.2.2.2.2.2.2
  have hW : Wd g mm s s.heap [] := ⟨hP0, va_S.rf⟩
  rw [ha, lg_entry_eq]
  have hl := lv_entry ([.ref (ad g 21 0)] : List Value) (n := 2) (Nat.le_of_ble_eq_true rfl)
  generalize (lg_sl ([.ref (ad g 21 0)] : List Value) ++ List.replicate (2 - (lg_sl ([.ref (ad g 21 0)] : List Value)).length) Slot.unset).toArray = ls at hl ⊢
  have hl : lv_has ls 2 [(0, .ref (ad g 21 0))] := hl
  rw [← ha]
  show W p l e rm_X6_write s m args below meth c s.heap [] 0 0 (MQ below (CI g mZ r0) args s 0 0 (gA g)) (F0 m 0 ls [])
  have P_16 : ∀ (n16 : Nat) (x1 : Int32) (mm : gM) (H : Heap) (locs : List Loc) (ls : Array Slot), Wd g mm s H locs → lv_has ls 2 [(0, .ref (ad g 21 0)), (1, .int x1)] → lX6_write_16 n16 x1 mm = some (r0, mZ) → W p l e rm_X6_write s m args below meth c H locs 0 0 (MQ below (CI g mZ r0) args s 0 0 (gA g)) (F0 m 16 ls []) := by
    intro n16
    induction n16 with
    | zero => intro x1 mm H locs ls hW hl hf; exact (no_some hf).elim
    | succ n16 ih_16 =>
      have P_80 : ∀ (x1 : Int32) (mm : gM) (H : Heap) (locs : List Loc) (ls : Array Slot), Wd g mm s H locs → lv_has ls 2 [(0, .ref (ad g 21 0)), (1, .int x1)] → jX6_write_80 (lX6_write_16 n16) x1 mm = some (r0, mZ) → W p l e rm_X6_write s m args below meth c H locs 0 0 (MQ below (CI g mZ r0) args s 0 0 (gA g)) (F0 m 80 ls []) := by
        intro x1 mm H locs ls hW hl hf
        unfold jX6_write_80 at hf
        refine lv_iinc (v := x1 + 1) (lv' := [(1, .int (x1 + 1)), (0, .ref (ad g 21 0))]) hx hb dX6_write_80 hl (k := 1) rfl rfl (by decide) rfl (fun ls hl => ?_)
        refine lv_goto (tgt := 16) hx hb dX6_write_83 (by decide) ?_
        exact ih_16 _ _ _ _ _ hW (lv_sub hl [1, 0] rfl) hf
      intro x1 mm H locs ls hW hl hf
      rw [lX6_write_16_s] at hf
      refine lv_iload_n hx hb dX6_write_16 rfl (lv_at hl 1 rfl) ?_
      refine lv_bipush (v := 6) hx hb dX6_write_17 (by decide) ?_
      refine lv_icmp_ge (tgt := 86) hx hb dX6_write_19 (by decide) (fun c22 => ?_) (fun c22 => ?_)
      · replace hf := ite_t hf c22
        refine lv_aload_n hx hb dX6_write_86 rfl (lv_at hl 0 rfl) ?_
        refine gf_21_7 X hW (by decide) mw_954 dX6_write_87 ?_
        obtain ⟨hf, hm⟩ := prinj hf
        replace hW := hW.same hm.symm
        exact e_i X hr hW (hf) dX6_write_90
      · replace hf := ite_f hf c22
        refine lv_aload_n hx hb dX6_write_22 rfl (lv_at hl 0 rfl) ?_
        refine gf_21_6 X hW (by decide) mw_953 dX6_write_23 ?_
        refine lv_aload_n hx hb dX6_write_26 rfl (lv_at hl 0 rfl) ?_
        refine gf_21_7 X hW (by decide) mw_954 dX6_write_27 ?_
        refine lv_aload_n hx hb dX6_write_30 rfl (lv_at hl 0 rfl) ?_
        refine lv_iload_n hx hb dX6_write_31 rfl (lv_at hl 1 rfl) ?_
        obtain ⟨r7, e6, hf⟩ := bnd_ex hf
        refine k_i X hW (k_V (As := [.int x1]) (rest := [.int (gi mm 21 0 7), .ref (ad g 26 0)]) X hW hml hl.1 (c_X6_readOf l g hDW  _ mm _ e6) (r_recv X hW 21 0 (by decide) (by decide) rfl rfl) ⟨mw_1164, kw_X6_readOf⟩ ⟨⟨rfl, rfl⟩, ko_X6_readOf, ⟨Nat.le_of_ble_eq_true rfl, Nat.le_of_ble_eq_true rfl⟩⟩ rfl rfl (Nat.le_of_ble_eq_true rfl) dX6_write_32 ⟨Nat.le_of_ble_eq_true rfl, Nat.le_of_ble_eq_true rfl⟩) (fun H locs hW => ?_)
        obtain ⟨r10, e9, hf⟩ := bnd_ex hf
        refine k_i X hW (k_S (As := [.int r7]) (rest := [.int (gi mm 21 0 7), .ref (ad g 26 0)]) X hW hml hl.1 (c_X6_letterOf l g hDW  _ mm _ e9) ⟨mw_1176, kw_X6_letterOf⟩ ⟨⟨rfl, rfl⟩, ko_X6_letterOf, ⟨Nat.le_of_ble_eq_true rfl, Nat.le_of_ble_eq_true rfl⟩⟩ rfl rfl (Nat.le_of_ble_eq_true rfl) dX6_write_35 ⟨Nat.le_of_ble_eq_true rfl, Nat.le_of_ble_eq_true rfl⟩) (fun H locs hW => ?_)
        obtain ⟨b12, hf⟩ := chk_ex hf
        obtain ⟨m13, ex, hf⟩ := wth_ex hf
        refine r_iast X hW 26 0 (by decide) (by decide) (fun _ => rfl) b12 dX6_write_38 (fun H locs hW => ?_)
        replace hW := hW.same ex
        clear ex
        refine lv_aload_n hx hb dX6_write_39 rfl (lv_at hl 0 rfl) ?_
        refine lv_dup hx hb dX6_write_40 rfl ?_
        refine gf_21_7 X hW (by decide) mw_954 dX6_write_41 ?_
        refine lv_iconst (v := 1) hx hb dX6_write_44 (by decide) ?_
        refine lv_iadd hx hb dX6_write_45 ?_
        obtain ⟨m14, ex, hf⟩ := wth_ex hf
        refine pf_21_7 X hW (by decide) mw_954 dX6_write_46 (fun H locs hW => ?_)
        replace hW := hW.same ex
        clear ex
        refine lv_aload_n hx hb dX6_write_49 rfl (lv_at hl 0 rfl) ?_
        refine lv_iload_n hx hb dX6_write_50 rfl (lv_at hl 1 rfl) ?_
        obtain ⟨r16, e15, hf⟩ := bnd_ex hf
        refine k_i X hW (k_V (As := [.int x1]) (rest := []) X hW hml hl.1 (c_X6_seenOf l g hDW  _ m14 _ e15) (r_recv X hW 21 0 (by decide) (by decide) rfl rfl) ⟨mw_1168, kw_X6_seenOf⟩ ⟨⟨rfl, rfl⟩, ko_X6_seenOf, ⟨Nat.le_of_ble_eq_true rfl, Nat.le_of_ble_eq_true rfl⟩⟩ rfl rfl (Nat.le_of_ble_eq_true rfl) dX6_write_51 ⟨Nat.le_of_ble_eq_true rfl, Nat.le_of_ble_eq_true rfl⟩) (fun H locs hW => ?_)
        refine lv_bipush (v := 127) hx hb dX6_write_54 (by decide) ?_
        refine lv_icmp_le (tgt := 80) hx hb dX6_write_56 (by decide) (fun c21 => ?_) (fun c21 => ?_)
        · replace hf := ite_t hf c21
          exact P_80 _ _ _ _ _ hW (lv_sub hl [0, 1] rfl) hf
        · replace hf := ite_f hf c21
          refine lv_aload_n hx hb dX6_write_59 rfl (lv_at hl 0 rfl) ?_
          refine gf_21_6 X hW (by decide) mw_953 dX6_write_60 ?_
          refine lv_aload_n hx hb dX6_write_63 rfl (lv_at hl 0 rfl) ?_
          refine gf_21_7 X hW (by decide) mw_954 dX6_write_64 ?_
          refine lv_bipush (v := 46) hx hb dX6_write_67 (by decide) ?_
          obtain ⟨b18, hf⟩ := chk_ex hf
          obtain ⟨m19, ex, hf⟩ := wth_ex hf
          refine r_iast X hW 26 0 (by decide) (by decide) (fun _ => rfl) b18 dX6_write_69 (fun H locs hW => ?_)
          replace hW := hW.same ex
          clear ex
          refine lv_aload_n hx hb dX6_write_70 rfl (lv_at hl 0 rfl) ?_
          refine lv_dup hx hb dX6_write_71 rfl ?_
          refine gf_21_7 X hW (by decide) mw_954 dX6_write_72 ?_
          refine lv_iconst (v := 1) hx hb dX6_write_75 (by decide) ?_
          refine lv_iadd hx hb dX6_write_76 ?_
          obtain ⟨m20, ex, hf⟩ := wth_ex hf
          refine pf_21_7 X hW (by decide) mw_954 dX6_write_77 (fun H locs hW => ?_)
          replace hW := hW.same ex
          clear ex
          exact P_80 _ _ _ _ _ hW (lv_sub hl [0, 1] rfl) hf
  unfold fX6_write at hf
  refine lv_aload_n hx hb dX6_write_0 rfl (lv_at hl 0 rfl) ?_
  refine lv_iconst (v := 0) hx hb dX6_write_1 (by decide) ?_
  obtain ⟨m1, ex, hf⟩ := wth_ex hf
  refine pf_21_0 X hW (by decide) mw_947 dX6_write_2 (fun H locs hW => ?_)
  replace hW := hW.same ex
  clear ex
  refine lv_aload_n hx hb dX6_write_5 rfl (lv_at hl 0 rfl) ?_
  obtain ⟨m4, e2, hf⟩ := bnd_ex hf
  refine k_v X hW (k_V (As := []) (rest := []) X hW hml hl.1 (c_X6_views l g hDW   m1 _ e2) (r_recv X hW 21 0 (by decide) (by decide) rfl rfl) ⟨mw_1160, kw_X6_views⟩ ⟨⟨rfl, rfl⟩, ko_X6_views, ⟨Nat.le_of_ble_eq_true rfl, Nat.le_of_ble_eq_true rfl⟩⟩ rfl rfl (Nat.le_of_ble_eq_true rfl) dX6_write_6 ⟨Nat.le_of_ble_eq_true rfl, Nat.le_of_ble_eq_true rfl⟩) (fun H locs hW => ?_)
  refine lv_aload_n hx hb dX6_write_9 rfl (lv_at hl 0 rfl) ?_
  refine lv_iconst (v := 0) hx hb dX6_write_10 (by decide) ?_
  obtain ⟨m5, ex, hf⟩ := wth_ex hf
  refine pf_21_7 X hW (by decide) mw_954 dX6_write_11 (fun H locs hW => ?_)
  replace hW := hW.same ex
  clear ex
  refine lv_iconst (v := 0) hx hb dX6_write_14 (by decide) ?_
  refine lv_istore_n (lv' := [(1, .int 0), (0, .ref (ad g 21 0))]) hx hb dX6_write_15 rfl hl (by decide) rfl (fun ls hl => ?_)
  exact P_16 _ _ _ _ _ _ hW (lv_sub hl [1, 0] rfl) hf
