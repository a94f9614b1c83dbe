set_option maxRecDepth 100000 in
set_option maxHeartbeats 4000000 in
theorem c_X5_slotsReadAsTheirSigns (l : Launch) (g : gG) (hDW : DW g) (mm : gM) (r0 : Int32) (mZ : gM) (hf : fX5_slotsReadAsTheirSigns mm = some (r0, mZ)) : Met l yX5_slotsReadAsTheirSigns (Cond.code yX5_slotsReadAsTheirSigns cX5_slotsReadAsTheirSigns 3 (some .int) :: ALLW) rm_X5_slotsReadAsTheirSigns (CPre g mm [.ref (ad g 12 0)]) (CI g mZ r0) 0 0 (gA g) := by
  refine Met.ofW (cc := cX5_slotsReadAsTheirSigns) (maxL := 3) (ret := (some .int)) (by decide) rfl ?_
  intro p e s m args below meth c s₁ B hml hv
  obtain ⟨ha, hFx, hP0, hlo⟩ := hv
  have X : Cx g p s m args c meth RX5 cX5_slotsReadAsTheirSigns := Cx_of hDW hFx hlo B
  have hx := X.1
  have hb := X.2.1
  have hr := B.returns
  have hlocks := X.2.2.2.2.2.2.2
  have hW : Wd g mm s s.heap [] := ⟨hP0, va_S.rf⟩
  rw [ha, lg_entry_eq]
  have hl := lv_entry ([.ref (ad g 12 0)] : List Value) (n := 3) (Nat.le_of_ble_eq_true rfl)
  generalize (lg_sl ([.ref (ad g 12 0)] : List Value) ++ List.replicate (3 - (lg_sl ([.ref (ad g 12 0)] : List Value)).length) Slot.unset).toArray = ls at hl ⊢
  have hl : lv_has ls 3 [(0, .ref (ad g 12 0))] := hl
  rw [← ha]
  show W p l e rm_X5_slotsReadAsTheirSigns s m args below meth c s.heap [] 0 0 (MQ below (CI g mZ r0) args s 0 0 (gA g)) (F0 m 0 ls [])
  have P_4 : ∀ (n4 : Nat) (x1 : Int32) (x2 : Int32) (mm : gM) (H : Heap) (locs : List Loc) (ls : Array Slot), Wd g mm s H locs → lv_has ls 3 [(0, .ref (ad g 12 0)), (1, .int x1), (2, .int x2)] → lX5_slotsReadAsTheirSigns_4 n4 x1 x2 mm = some (r0, mZ) → W p l e rm_X5_slotsReadAsTheirSigns s m args below meth c H locs 0 0 (MQ below (CI g mZ r0) args s 0 0 (gA g)) (F0 m 4 ls []) := by
    intro n4
    induction n4 with
    | zero => intro x1 x2 mm H locs ls hW hl hf; exact (no_some hf).elim
    | succ n4 ih_4 =>
      have P_41 : ∀ (x1 : Int32) (x2 : Int32) (mm : gM) (H : Heap) (locs : List Loc) (ls : Array Slot), Wd g mm s H locs → lv_has ls 3 [(0, .ref (ad g 12 0)), (1, .int x1), (2, .int x2)] → jX5_slotsReadAsTheirSigns_41 (lX5_slotsReadAsTheirSigns_4 n4) x1 x2 mm = some (r0, mZ) → W p l e rm_X5_slotsReadAsTheirSigns s m args below meth c H locs 0 0 (MQ below (CI g mZ r0) args s 0 0 (gA g)) (F0 m 41 ls []) := by
        intro x1 x2 mm H locs ls hW hl hf
        unfold jX5_slotsReadAsTheirSigns_41 at hf
        refine lv_iinc (v := x2 + 1) (lv' := [(2, .int (x2 + 1)), (0, .ref (ad g 12 0)), (1, .int x1)]) hx hb dX5_slotsReadAsTheirSigns_41 hl (k := 2) rfl rfl (by decide) rfl (fun ls hl => ?_)
        refine lv_goto (tgt := 4) hx hb dX5_slotsReadAsTheirSigns_44 (by decide) ?_
        exact ih_4 _ _ _ _ _ _ hW (lv_sub hl [1, 2, 0] rfl) hf
      intro x1 x2 mm H locs ls hW hl hf
      rw [lX5_slotsReadAsTheirSigns_4_s] at hf
      refine lv_iload_n hx hb dX5_slotsReadAsTheirSigns_4 rfl (lv_at hl 2 rfl) ?_
      refine lv_bipush (v := 6) hx hb dX5_slotsReadAsTheirSigns_5 (by decide) ?_
      refine lv_icmp_ge (tgt := 47) hx hb dX5_slotsReadAsTheirSigns_7 (by decide) (fun c9 => ?_) (fun c9 => ?_)
      · replace hf := ite_t hf c9
        refine lv_iload_n hx hb dX5_slotsReadAsTheirSigns_47 rfl (lv_at hl 1 rfl) ?_
        obtain ⟨hf, hm⟩ := prinj hf
        replace hW := hW.same hm.symm
        exact e_i X hr hW (hf) dX5_slotsReadAsTheirSigns_48
      · replace hf := ite_f hf c9
        refine lv_aload_n hx hb dX5_slotsReadAsTheirSigns_10 rfl (lv_at hl 0 rfl) ?_
        refine gf_12_0 X hW (by decide) mw_251 dX5_slotsReadAsTheirSigns_11 ?_
        refine lv_iload_n hx hb dX5_slotsReadAsTheirSigns_14 rfl (lv_at hl 2 rfl) ?_
        obtain ⟨m3, e1, hf⟩ := bnd_ex hf
        refine k_v X hW (k_V (As := [.int x2]) (rest := []) X hW hml hl.1 (c_X1_look l g hDW 0 (by decide) _ mm _ e1) (r_recv X hW 6 0 (by decide) (by decide) rfl rfl) ⟨mw_389, kw_X1_look⟩ ⟨⟨rfl, rfl⟩, ko_X1_look, ⟨Nat.le_of_ble_eq_true rfl, Nat.le_of_ble_eq_true rfl⟩⟩ rfl rfl (Nat.le_of_ble_eq_true rfl) dX5_slotsReadAsTheirSigns_15 ⟨Nat.le_of_ble_eq_true rfl, Nat.le_of_ble_eq_true rfl⟩) (fun H locs hW => ?_)
        refine lv_aload_n hx hb dX5_slotsReadAsTheirSigns_18 rfl (lv_at hl 0 rfl) ?_
        refine gf_12_0 X hW (by decide) mw_251 dX5_slotsReadAsTheirSigns_19 ?_
        refine lv_iload_n hx hb dX5_slotsReadAsTheirSigns_22 rfl (lv_at hl 2 rfl) ?_
        obtain ⟨r5, e4, hf⟩ := bnd_ex hf
        refine k_i X hW (k_V (As := [.int x2]) (rest := []) X hW hml hl.1 (c_X1_readAs l g hDW 0 (by decide) _ m3 _ e4) (r_recv X hW 6 0 (by decide) (by decide) rfl rfl) ⟨mw_453, kw_X1_readAs⟩ ⟨⟨rfl, rfl⟩, ko_X1_readAs, ⟨Nat.le_of_ble_eq_true rfl, Nat.le_of_ble_eq_true rfl⟩⟩ rfl rfl (Nat.le_of_ble_eq_true rfl) dX5_slotsReadAsTheirSigns_23 ⟨Nat.le_of_ble_eq_true rfl, Nat.le_of_ble_eq_true rfl⟩) (fun H locs hW => ?_)
        refine lv_aload_n hx hb dX5_slotsReadAsTheirSigns_26 rfl (lv_at hl 0 rfl) ?_
        refine gf_12_1 X hW (by decide) mw_252 dX5_slotsReadAsTheirSigns_27 ?_
        refine gf_0_0 X hW (by decide) mw_113 dX5_slotsReadAsTheirSigns_30 ?_
        refine lv_iload_n hx hb dX5_slotsReadAsTheirSigns_33 rfl (lv_at hl 2 rfl) ?_
        obtain ⟨b7, hf⟩ := chk_ex hf
        refine r_iald X hW 1 0 (by decide) (by decide) rfl b7 dX5_slotsReadAsTheirSigns_34 ?_
        refine lv_icmp_ne (tgt := 41) hx hb dX5_slotsReadAsTheirSigns_35 (by decide) (fun c8 => ?_) (fun c8 => ?_)
        · replace hf := ite_f hf c8
          exact P_41 _ _ _ _ _ _ hW (lv_sub hl [0, 1, 2] rfl) hf
        · replace hf := ite_t hf c8
          refine lv_iinc (v := x1 + 1) (lv' := [(1, .int (x1 + 1)), (0, .ref (ad g 12 0)), (2, .int x2)]) hx hb dX5_slotsReadAsTheirSigns_38 hl (k := 1) rfl rfl (by decide) rfl (fun ls hl => ?_)
          exact P_41 _ _ _ _ _ _ hW (lv_sub hl [1, 0, 2] rfl) hf
  unfold fX5_slotsReadAsTheirSigns at hf
  refine lv_iconst (v := 0) hx hb dX5_slotsReadAsTheirSigns_0 (by decide) ?_
  refine lv_istore_n (lv' := [(1, .int 0), (0, .ref (ad g 12 0))]) hx hb dX5_slotsReadAsTheirSigns_1 rfl hl (by decide) rfl (fun ls hl => ?_)
  refine lv_iconst (v := 0) hx hb dX5_slotsReadAsTheirSigns_2 (by decide) ?_
  refine lv_istore_n (lv' := [(2, .int 0), (1, .int 0), (0, .ref (ad g 12 0))]) hx hb dX5_slotsReadAsTheirSigns_3 rfl hl (by decide) rfl (fun ls hl => ?_)
  exact P_4 _ _ _ _ _ _ _ hW (lv_sub hl [2, 1, 0] rfl) hf
set_option maxRecDepth 100000 in
set_option maxHeartbeats 4000000 in
theorem c_X5_unevenness (l : Launch) (g : gG) (hDW : DW g) (mm : gM) (r0 : Int32) (mZ : gM) (hf : fX5_unevenness mm = some (r0, mZ)) : Met l yX5_unevenness (Cond.code yX5_unevenness cX5_unevenness 5 (some .int) :: ALLW) rm_X5_unevenness (CPre g mm [.ref (ad g 12 0)]) (CI g mZ r0) 0 0 (gA g) := by
  refine Met.ofW (cc := cX5_unevenness) (maxL := 5) (ret := (some .int)) (by decide) rfl ?_
  intro p e s m args below meth c s₁ B hml hv
  obtain ⟨ha, hFx, hP0, hlo⟩ := hv
  have X : Cx g p s m args c meth RX5 cX5_unevenness := Cx_of hDW hFx hlo B
  have hx := X.1
  have hb := X.2.1
  have hr := B.returns
  have hlocks := X.2.2.2.2.2.2.2
  have hW : Wd g mm s s.heap [] := ⟨hP0, va_S.rf⟩
  rw [ha, lg_entry_eq]
  have hl := lv_entry ([.ref (ad g 12 0)] : List Value) (n := 5) (Nat.le_of_ble_eq_true rfl)
  generalize (lg_sl ([.ref (ad g 12 0)] : List Value) ++ List.replicate (5 - (lg_sl ([.ref (ad g 12 0)] : List Value)).length) Slot.unset).toArray = ls at hl ⊢
  have hl : lv_has ls 5 [(0, .ref (ad g 12 0))] := hl
  rw [← ha]
  show W p l e rm_X5_unevenness s m args below meth c s.heap [] 0 0 (MQ below (CI g mZ r0) args s 0 0 (gA g)) (F0 m 0 ls [])
  have P_63 : ∀ (x1 : Int32) (x2 : Int32) (mm : gM) (H : Heap) (locs : List Loc) (ls : Array Slot), Wd g mm s H locs → lv_has ls 5 [(1, .int x1), (2, .int x2)] → jX5_unevenness_63 x1 x2 mm = some (r0, mZ) → W p l e rm_X5_unevenness s m args below meth c H locs 0 0 (MQ below (CI g mZ r0) args s 0 0 (gA g)) (F0 m 63 ls []) := by
    intro x1 x2 mm H locs ls hW hl hf
    unfold jX5_unevenness_63 at hf
    refine lv_iconst (v := 0) hx hb dX5_unevenness_63 (by decide) ?_
    refine lv_iload_n hx hb dX5_unevenness_64 rfl (lv_at hl 0 rfl) ?_
    refine lv_iload_n hx hb dX5_unevenness_65 rfl (lv_at hl 1 rfl) ?_
    refine lv_isub hx hb dX5_unevenness_66 ?_
    refine r_mx X hml hl.1 mw_554 kw_mx (Nat.le_of_ble_eq_true rfl) (Nat.le_of_ble_eq_true rfl) (Nat.le_of_ble_eq_true rfl) (Nat.le_of_ble_eq_true rfl) dX5_unevenness_67 ?_
    obtain ⟨hf, hm⟩ := prinj hf
    replace hW := hW.same hm.symm
    exact e_i X hr hW (hf) dX5_unevenness_70
  have P_8 : ∀ (n8 : Nat) (x1 : Int32) (x2 : Int32) (x3 : Int32) (mm : gM) (H : Heap) (locs : List Loc) (ls : Array Slot), Wd g mm s H locs → lv_has ls 5 [(0, .ref (ad g 12 0)), (1, .int x1), (2, .int x2), (3, .int x3)] → lX5_unevenness_8 n8 x1 x2 x3 mm = some (r0, mZ) → W p l e rm_X5_unevenness s m args below meth c H locs 0 0 (MQ below (CI g mZ r0) args s 0 0 (gA g)) (F0 m 8 ls []) := by
    intro n8
    induction n8 with
    | zero => intro x1 x2 x3 mm H locs ls hW hl hf; exact (no_some hf).elim
    | succ n8 ih_8 =>
      have P_57 : ∀ (x1 : Int32) (x2 : Int32) (x3 : Int32) (mm : gM) (H : Heap) (locs : List Loc) (ls : Array Slot), Wd g mm s H locs → lv_has ls 5 [(0, .ref (ad g 12 0)), (1, .int x1), (2, .int x2), (3, .int x3)] → jX5_unevenness_57 (lX5_unevenness_8 n8) x1 x2 x3 mm = some (r0, mZ) → W p l e rm_X5_unevenness s m args below meth c H locs 0 0 (MQ below (CI g mZ r0) args s 0 0 (gA g)) (F0 m 57 ls []) := by
        intro x1 x2 x3 mm H locs ls hW hl hf
        unfold jX5_unevenness_57 at hf
        refine lv_iinc (v := x3 + 1) (lv' := [(3, .int (x3 + 1)), (0, .ref (ad g 12 0)), (1, .int x1), (2, .int x2)]) hx hb dX5_unevenness_57 hl (k := 3) rfl rfl (by decide) rfl (fun ls hl => ?_)
        refine lv_goto (tgt := 8) hx hb dX5_unevenness_60 (by decide) ?_
        exact ih_8 _ _ _ _ _ _ _ hW (lv_sub hl [1, 2, 3, 0] rfl) hf
      intro x1 x2 x3 mm H locs ls hW hl hf
      rw [lX5_unevenness_8_s] at hf
      refine lv_iload_n hx hb dX5_unevenness_8 rfl (lv_at hl 3 rfl) ?_
      refine lv_bipush (v := 6) hx hb dX5_unevenness_9 (by decide) ?_
      refine lv_icmp_ge (tgt := 63) hx hb dX5_unevenness_11 (by decide) (fun c11 => ?_) (fun c11 => ?_)
      · replace hf := ite_t hf c11
        exact P_63 _ _ _ _ _ _ hW (lv_sub hl [1, 2] rfl) hf
      · replace hf := ite_f hf c11
        refine lv_aload_n hx hb dX5_unevenness_14 rfl (lv_at hl 0 rfl) ?_
        refine gf_12_1 X hW (by decide) mw_252 dX5_unevenness_15 ?_
        refine lv_iload_n hx hb dX5_unevenness_18 rfl (lv_at hl 3 rfl) ?_
        obtain ⟨r2, e1, hf⟩ := bnd_ex hf
        refine k_i X hW (k_V (As := [.int x3]) (rest := []) X hW hml hl.1 (c_X2_works l g hDW 0 (by decide) _ mm _ e1) (r_recv X hW 0 0 (by decide) (by decide) rfl rfl) ⟨mw_505, kw_X2_works⟩ ⟨⟨rfl, rfl⟩, ko_X2_works, ⟨Nat.le_of_ble_eq_true rfl, Nat.le_of_ble_eq_true rfl⟩⟩ rfl rfl (Nat.le_of_ble_eq_true rfl) dX5_unevenness_19 ⟨Nat.le_of_ble_eq_true rfl, Nat.le_of_ble_eq_true rfl⟩) (fun H locs hW => ?_)
        refine lv_if_eq (tgt := 57) hx hb dX5_unevenness_22 (by decide) (fun c10 => ?_) (fun c10 => ?_)
        · replace hf := ite_t hf c10
          exact P_57 _ _ _ _ _ _ _ hW (lv_sub hl [0, 1, 2, 3] rfl) hf
        · replace hf := ite_f hf c10
          refine lv_aload_n hx hb dX5_unevenness_25 rfl (lv_at hl 0 rfl) ?_
          refine gf_12_0 X hW (by decide) mw_251 dX5_unevenness_26 ?_
          refine lv_iload_n hx hb dX5_unevenness_29 rfl (lv_at hl 3 rfl) ?_
          obtain ⟨m6, e4, hf⟩ := bnd_ex hf
          refine k_v X hW (k_V (As := [.int x3]) (rest := []) X hW hml hl.1 (c_X1_look l g hDW 0 (by decide) _ mm _ e4) (r_recv X hW 6 0 (by decide) (by decide) rfl rfl) ⟨mw_389, kw_X1_look⟩ ⟨⟨rfl, rfl⟩, ko_X1_look, ⟨Nat.le_of_ble_eq_true rfl, Nat.le_of_ble_eq_true rfl⟩⟩ rfl rfl (Nat.le_of_ble_eq_true rfl) dX5_unevenness_30 ⟨Nat.le_of_ble_eq_true rfl, Nat.le_of_ble_eq_true rfl⟩) (fun H locs hW => ?_)
          refine lv_aload_n hx hb dX5_unevenness_33 rfl (lv_at hl 0 rfl) ?_
          refine gf_12_0 X hW (by decide) mw_251 dX5_unevenness_34 ?_
          refine lv_iload_n hx hb dX5_unevenness_37 rfl (lv_at hl 3 rfl) ?_
          obtain ⟨r8, e7, hf⟩ := bnd_ex hf
          refine k_i X hW (k_V (As := [.int x3]) (rest := []) X hW hml hl.1 (c_X1_mean l g hDW 0 (by decide) _ m6 _ e7) (r_recv X hW 6 0 (by decide) (by decide) rfl rfl) ⟨mw_506, kw_X1_mean⟩ ⟨⟨rfl, rfl⟩, ko_X1_mean, ⟨Nat.le_of_ble_eq_true rfl, Nat.le_of_ble_eq_true rfl⟩⟩ rfl rfl (Nat.le_of_ble_eq_true rfl) dX5_unevenness_38 ⟨Nat.le_of_ble_eq_true rfl, Nat.le_of_ble_eq_true rfl⟩) (fun H locs hW => ?_)
          refine lv_istore (lv' := [(4, .int r8), (0, .ref (ad g 12 0)), (1, .int x1), (2, .int x2), (3, .int x3)]) hx hb dX5_unevenness_41 hl (by decide) rfl (fun ls hl => ?_)
          refine lv_iload_n hx hb dX5_unevenness_43 rfl (lv_at hl 2 rfl) ?_
          refine lv_iload hx hb dX5_unevenness_44 (lv_at hl 0 rfl) ?_
          refine r_mx X hml hl.1 mw_554 kw_mx (Nat.le_of_ble_eq_true rfl) (Nat.le_of_ble_eq_true rfl) (Nat.le_of_ble_eq_true rfl) (Nat.le_of_ble_eq_true rfl) dX5_unevenness_46 ?_
          refine lv_istore_n (lv' := [(1, .int (mx x1 r8)), (4, .int r8), (0, .ref (ad g 12 0)), (2, .int x2), (3, .int x3)]) hx hb dX5_unevenness_49 rfl hl (by decide) rfl (fun ls hl => ?_)
          refine lv_iload_n hx hb dX5_unevenness_50 rfl (lv_at hl 3 rfl) ?_
          refine lv_iload hx hb dX5_unevenness_51 (lv_at hl 1 rfl) ?_
          refine r_mn X hml hl.1 mw_555 kw_mn (Nat.le_of_ble_eq_true rfl) (Nat.le_of_ble_eq_true rfl) (Nat.le_of_ble_eq_true rfl) (Nat.le_of_ble_eq_true rfl) dX5_unevenness_53 ?_
          refine lv_istore_n (lv' := [(2, .int (mn x2 r8)), (1, .int (mx x1 r8)), (4, .int r8), (0, .ref (ad g 12 0)), (3, .int x3)]) hx hb dX5_unevenness_56 rfl hl (by decide) rfl (fun ls hl => ?_)
          exact P_57 _ _ _ _ _ _ _ hW (lv_sub hl [3, 1, 0, 4] rfl) hf
  unfold fX5_unevenness at hf
  refine lv_iconst (v := 0) hx hb dX5_unevenness_0 (by decide) ?_
  refine lv_istore_n (lv' := [(1, .int 0), (0, .ref (ad g 12 0))]) hx hb dX5_unevenness_1 rfl hl (by decide) rfl (fun ls hl => ?_)
  refine lv_ldcw hx hb X.2.2.1 (X.2.2.2.1 _ mw_553) dX5_unevenness_2 ?_
  refine lv_istore_n (lv' := [(2, .int 1073741824), (1, .int 0), (0, .ref (ad g 12 0))]) hx hb dX5_unevenness_5 rfl hl (by decide) rfl (fun ls hl => ?_)
  refine lv_iconst (v := 0) hx hb dX5_unevenness_6 (by decide) ?_
  refine lv_istore_n (lv' := [(3, .int 0), (2, .int 1073741824), (1, .int 0), (0, .ref (ad g 12 0))]) hx hb dX5_unevenness_7 rfl hl (by decide) rfl (fun ls hl => ?_)
  exact P_8 _ _ _ _ _ _ _ _ hW (lv_sub hl [3, 2, 1, 0] rfl) hf
set_option maxRecDepth 100000 in
set_option maxHeartbeats 4000000 in
theorem c_X5_flicker (l : Launch) (g : gG) (hDW : DW g) (mm : gM) (r0 : Int32) (mZ : gM) (hf : fX5_flicker mm = some (r0, mZ)) : Met l yX5_flicker (Cond.code yX5_flicker cX5_flicker 6 (some .int) :: ALLW) rm_X5_flicker (CPre g mm [.ref (ad g 12 0)]) (CI g mZ r0) 0 0 (gA g) := by
  refine Met.ofW (cc := cX5_flicker) (maxL := 6) (ret := (some .int)) (by decide) rfl ?_
  intro p e s m args below meth c s₁ B hml hv
  obtain ⟨ha, hFx, hP0, hlo⟩ := hv
  have X : Cx g p s m args c meth RX5 cX5_flicker := Cx_of hDW hFx hlo B
  have hx := X.1
  have hb := X.2.1
  have hr := B.returns
  have hlocks := X.2.2.2.2.2.2.2
  have hW : Wd g mm s s.heap [] := ⟨hP0, va_S.rf⟩
  rw [ha, lg_entry_eq]
  have hl := lv_entry ([.ref (ad g 12 0)] : List Value) (n := 6) (Nat.le_of_ble_eq_true rfl)
  generalize (lg_sl ([.ref (ad g 12 0)] : List Value) ++ List.replicate (6 - (lg_sl ([.ref (ad g 12 0)] : List Value)).length) Slot.unset).toArray = ls at hl ⊢
  have hl : lv_has ls 6 [(0, .ref (ad g 12 0))] := hl
  rw [← ha]
  show W p l e rm_X5_flicker s m args below meth c s.heap [] 0 0 (MQ below (CI g mZ r0) args s 0 0 (gA g)) (F0 m 0 ls [])
  have P_4 : ∀ (n4 : Nat) (x1 : Int32) (x2 : Int32) (mm : gM) (H : Heap) (locs : List Loc) (ls : Array Slot), Wd g mm s H locs → lv_has ls 6 [(0, .ref (ad g 12 0)), (1, .int x1), (2, .int x2)] → lX5_flicker_4 n4 x1 x2 mm = some (r0, mZ) → W p l e rm_X5_flicker s m args below meth c H locs 0 0 (MQ below (CI g mZ r0) args s 0 0 (gA g)) (F0 m 4 ls []) := by
    intro n4
    induction n4 with
    | zero => intro x1 x2 mm H locs ls hW hl hf; exact (no_some hf).elim
    | succ n4 ih_4 =>
      have P_88 : ∀ (x1 : Int32) (x2 : Int32) (mm : gM) (H : Heap) (locs : List Loc) (ls : Array Slot), Wd g mm s H locs → lv_has ls 6 [(0, .ref (ad g 12 0)), (1, .int x1), (2, .int x2)] → jX5_flicker_88 (lX5_flicker_4 n4) x1 x2 mm = some (r0, mZ) → W p l e rm_X5_flicker s m args below meth c H locs 0 0 (MQ below (CI g mZ r0) args s 0 0 (gA g)) (F0 m 88 ls []) := by
        intro x1 x2 mm H locs ls hW hl hf
        unfold jX5_flicker_88 at hf
        refine lv_iinc (v := x2 + 1) (lv' := [(2, .int (x2 + 1)), (0, .ref (ad g 12 0)), (1, .int x1)]) hx hb dX5_flicker_88 hl (k := 2) rfl rfl (by decide) rfl (fun ls hl => ?_)
        refine lv_goto (tgt := 4) hx hb dX5_flicker_91 (by decide) ?_
        exact ih_4 _ _ _ _ _ _ hW (lv_sub hl [1, 2, 0] rfl) hf
      have P_30 : ∀ (n30 : Nat) (x1 : Int32) (x2 : Int32) (x3 : Int32) (x4 : Int32) (mm : gM) (H : Heap) (locs : List Loc) (ls : Array Slot), Wd g mm s H locs → lv_has ls 6 [(0, .ref (ad g 12 0)), (1, .int x1), (2, .int x2), (3, .int x3), (4, .int x4)] → lX5_flicker_30 (lX5_flicker_4 n4) n30 x1 x2 x3 x4 mm = some (r0, mZ) → W p l e rm_X5_flicker s m args below meth c H locs 0 0 (MQ below (CI g mZ r0) args s 0 0 (gA g)) (F0 m 30 ls []) := by
        intro n30
        induction n30 with
        | zero => intro x1 x2 x3 x4 mm H locs ls hW hl hf; exact (no_some hf).elim
        | succ n30 ih_30 =>
          have P_82 : ∀ (x1 : Int32) (x2 : Int32) (x3 : Int32) (x4 : Int32) (mm : gM) (H : Heap) (locs : List Loc) (ls : Array Slot), Wd g mm s H locs → lv_has ls 6 [(0, .ref (ad g 12 0)), (1, .int x1), (2, .int x2), (3, .int x3), (4, .int x4)] → jX5_flicker_82 (lX5_flicker_4 n4) (lX5_flicker_30 (lX5_flicker_4 n4) n30) x1 x2 x3 x4 mm = some (r0, mZ) → W p l e rm_X5_flicker s m args below meth c H locs 0 0 (MQ below (CI g mZ r0) args s 0 0 (gA g)) (F0 m 82 ls []) := by
            intro x1 x2 x3 x4 mm H locs ls hW hl hf
            unfold jX5_flicker_82 at hf
            refine lv_iinc (v := x4 + 1) (lv' := [(4, .int (x4 + 1)), (0, .ref (ad g 12 0)), (1, .int x1), (2, .int x2), (3, .int x3)]) hx hb dX5_flicker_82 hl (k := 4) rfl rfl (by decide) rfl (fun ls hl => ?_)
            refine lv_goto (tgt := 30) hx hb dX5_flicker_85 (by decide) ?_
            exact ih_30 _ _ _ _ _ _ _ _ hW (lv_sub hl [1, 2, 3, 4, 0] rfl) hf
          intro x1 x2 x3 x4 mm H locs ls hW hl hf
          rw [lX5_flicker_30_s] at hf
          refine lv_iload hx hb dX5_flicker_30 (lv_at hl 4 rfl) ?_
          refine lv_bipush (v := 8) hx hb dX5_flicker_32 (by decide) ?_
          refine lv_icmp_ge (tgt := 88) hx hb dX5_flicker_34 (by decide) (fun c15 => ?_) (fun c15 => ?_)
          · replace hf := ite_t hf c15
            exact P_88 _ _ _ _ _ _ hW (lv_sub hl [0, 1, 2] rfl) hf
          · replace hf := ite_f hf c15
            refine lv_iload_n hx hb dX5_flicker_37 rfl (lv_at hl 2 rfl) ?_
            refine lv_bipush (v := 8) hx hb dX5_flicker_38 (by decide) ?_
            refine lv_imul hx hb dX5_flicker_40 ?_
            refine lv_iload hx hb dX5_flicker_41 (lv_at hl 4 rfl) ?_
            refine lv_iadd hx hb dX5_flicker_43 ?_
            refine lv_istore (lv' := [(5, .int ((x2 * 8) + x4)), (0, .ref (ad g 12 0)), (1, .int x1), (2, .int x2), (3, .int x3), (4, .int x4)]) hx hb dX5_flicker_44 hl (by decide) rfl (fun ls hl => ?_)
            refine lv_iload_n hx hb dX5_flicker_46 rfl (lv_at hl 4 rfl) ?_
            refine lv_iload hx hb dX5_flicker_47 (lv_at hl 5 rfl) ?_
            obtain ⟨r9, e8, hf⟩ := bnd_ex hf
            refine k_i X hW (k_S (As := [.int x3, .int x4]) (rest := []) X hW hml hl.1 (c_X5_bit l g hDW  _ _ mm _ e8) ⟨mw_491, kw_X5_bit⟩ ⟨⟨rfl, rfl⟩, ko_X5_bit, ⟨Nat.le_of_ble_eq_true rfl, Nat.le_of_ble_eq_true rfl⟩⟩ rfl rfl (Nat.le_of_ble_eq_true rfl) dX5_flicker_49 ⟨Nat.le_of_ble_eq_true rfl, Nat.le_of_ble_eq_true rfl⟩) (fun H locs hW => ?_)
            refine lv_iconst (v := 1) hx hb dX5_flicker_52 (by decide) ?_
            refine lv_icmp_ne (tgt := 82) hx hb dX5_flicker_53 (by decide) (fun c14 => ?_) (fun c14 => ?_)
            · replace hf := ite_f hf c14
              exact P_82 _ _ _ _ _ _ _ _ hW (lv_sub hl [1, 2, 3, 4, 5] rfl) hf
            · replace hf := ite_t hf c14
              refine lv_iload_n hx hb dX5_flicker_56 rfl (lv_at hl 2 rfl) ?_
              refine lv_aload_n hx hb dX5_flicker_57 rfl (lv_at hl 1 rfl) ?_
              refine gf_12_0 X hW (by decide) mw_251 dX5_flicker_58 ?_
              refine gf_6_2 X hW (by decide) mw_198 dX5_flicker_61 ?_
              refine lv_iload hx hb dX5_flicker_64 (lv_at hl 0 rfl) ?_
              obtain ⟨b11, hf⟩ := chk_ex hf
              refine r_iald X hW 8 0 (by decide) (by decide) rfl b11 dX5_flicker_66 ?_
              refine lv_aload_n hx hb dX5_flicker_67 rfl (lv_at hl 1 rfl) ?_
              refine gf_12_0 X hW (by decide) mw_251 dX5_flicker_68 ?_
              refine gf_6_3 X hW (by decide) mw_200 dX5_flicker_71 ?_
              refine lv_iload hx hb dX5_flicker_74 (lv_at hl 0 rfl) ?_
              obtain ⟨b12, hf⟩ := chk_ex hf
              refine r_iald X hW 9 0 (by decide) (by decide) rfl b12 dX5_flicker_76 ?_
              refine lv_isub hx hb dX5_flicker_77 ?_
              refine r_mx X hml hl.1 mw_554 kw_mx (Nat.le_of_ble_eq_true rfl) (Nat.le_of_ble_eq_true rfl) (Nat.le_of_ble_eq_true rfl) (Nat.le_of_ble_eq_true rfl) dX5_flicker_78 ?_
              obtain ⟨v13, ex, hf⟩ := wth_ex hf
              refine lv_nm ex ?_
              clear ex
              refine lv_istore_n (lv' := [(1, .int v13), (5, .int ((x2 * 8) + x4)), (0, .ref (ad g 12 0)), (2, .int x2), (3, .int x3), (4, .int x4)]) hx hb dX5_flicker_81 rfl hl (by decide) rfl (fun ls hl => ?_)
              exact P_82 _ _ _ _ _ _ _ _ hW (lv_sub hl [2, 0, 3, 4, 5] rfl) hf
      intro x1 x2 mm H locs ls hW hl hf
      rw [lX5_flicker_4_s] at hf
      refine lv_iload_n hx hb dX5_flicker_4 rfl (lv_at hl 2 rfl) ?_
      refine lv_bipush (v := 6) hx hb dX5_flicker_5 (by decide) ?_
      refine lv_icmp_ge (tgt := 94) hx hb dX5_flicker_7 (by decide) (fun c7 => ?_) (fun c7 => ?_)
      · replace hf := ite_t hf c7
        refine lv_iload_n hx hb dX5_flicker_94 rfl (lv_at hl 1 rfl) ?_
        obtain ⟨hf, hm⟩ := prinj hf
        replace hW := hW.same hm.symm
        exact e_i X hr hW (hf) dX5_flicker_95
      · replace hf := ite_f hf c7
        refine lv_aload_n hx hb dX5_flicker_10 rfl (lv_at hl 0 rfl) ?_
        refine gf_12_1 X hW (by decide) mw_252 dX5_flicker_11 ?_
        refine lv_iload_n hx hb dX5_flicker_14 rfl (lv_at hl 2 rfl) ?_
        obtain ⟨r2, e1, hf⟩ := bnd_ex hf
        refine k_i X hW (k_V (As := [.int x2]) (rest := []) X hW hml hl.1 (c_X2_works l g hDW 0 (by decide) _ mm _ e1) (r_recv X hW 0 0 (by decide) (by decide) rfl rfl) ⟨mw_505, kw_X2_works⟩ ⟨⟨rfl, rfl⟩, ko_X2_works, ⟨Nat.le_of_ble_eq_true rfl, Nat.le_of_ble_eq_true rfl⟩⟩ rfl rfl (Nat.le_of_ble_eq_true rfl) dX5_flicker_15 ⟨Nat.le_of_ble_eq_true rfl, Nat.le_of_ble_eq_true rfl⟩) (fun H locs hW => ?_)
        refine lv_istore_n (lv' := [(3, .int r2), (0, .ref (ad g 12 0)), (1, .int x1), (2, .int x2)]) hx hb dX5_flicker_18 rfl hl (by decide) rfl (fun ls hl => ?_)
        refine lv_aload_n hx hb dX5_flicker_19 rfl (lv_at hl 1 rfl) ?_
        refine gf_12_0 X hW (by decide) mw_251 dX5_flicker_20 ?_
        refine lv_iload_n hx hb dX5_flicker_23 rfl (lv_at hl 3 rfl) ?_
        obtain ⟨m6, e4, hf⟩ := bnd_ex hf
        refine k_v X hW (k_V (As := [.int x2]) (rest := []) X hW hml hl.1 (c_X1_look l g hDW 0 (by decide) _ mm _ e4) (r_recv X hW 6 0 (by decide) (by decide) rfl rfl) ⟨mw_389, kw_X1_look⟩ ⟨⟨rfl, rfl⟩, ko_X1_look, ⟨Nat.le_of_ble_eq_true rfl, Nat.le_of_ble_eq_true rfl⟩⟩ rfl rfl (Nat.le_of_ble_eq_true rfl) dX5_flicker_24 ⟨Nat.le_of_ble_eq_true rfl, Nat.le_of_ble_eq_true rfl⟩) (fun H locs hW => ?_)
        refine lv_iconst (v := 0) hx hb dX5_flicker_27 (by decide) ?_
        refine lv_istore (lv' := [(4, .int 0), (3, .int r2), (0, .ref (ad g 12 0)), (1, .int x1), (2, .int x2)]) hx hb dX5_flicker_28 hl (by decide) rfl (fun ls hl => ?_)
        exact P_30 _ _ _ _ _ _ _ _ _ hW (lv_sub hl [2, 3, 4, 1, 0] rfl) hf
  unfold fX5_flicker at hf
  refine lv_iconst (v := 0) hx hb dX5_flicker_0 (by decide) ?_
  refine lv_istore_n (lv' := [(1, .int 0), (0, .ref (ad g 12 0))]) hx hb dX5_flicker_1 rfl hl (by decide) rfl (fun ls hl => ?_)
  refine lv_iconst (v := 0) hx hb dX5_flicker_2 (by decide) ?_
  refine lv_istore_n (lv' := [(2, .int 0), (1, .int 0), (0, .ref (ad g 12 0))]) hx hb dX5_flicker_3 rfl hl (by decide) rfl (fun ls hl => ?_)
  exact P_4 _ _ _ _ _ _ _ hW (lv_sub hl [2, 1, 0] rfl) hf
set_option maxRecDepth 100000 in
set_option maxHeartbeats 4000000 in
theorem c_X5_number (l : Launch) (g : gG) (hDW : DW g) (x1 : Int32) (mm : gM) (r0 : Int32) (mZ : gM) (hf : fX5_number x1 mm = some (r0, mZ)) : Met l yX5_number (Cond.code yX5_number cX5_number 2 (some .int) :: ALLW) rm_X5_number (CPre g mm [.ref (ad g 12 0), .int x1]) (CI g mZ r0) 0 0 (gA g) := by
  refine Met.ofW (cc := cX5_number) (maxL := 2) (ret := (some .int)) (by decide) rfl ?_
  intro p e s m args below meth c s₁ B hml hv
  obtain ⟨ha, hFx, hP0, hlo⟩ := hv
  have X : Cx g p s m args c meth RX5 cX5_number := Cx_of hDW hFx hlo B
  have hx := X.1
  have hb := X.2.1
  have hr := B.returns
  have hlocks := X.2.2.2.2.2.2.2
  have hW : Wd g mm s s.heap [] := ⟨hP0, va_S.rf⟩
  rw [ha, lg_entry_eq]
  have hl := lv_entry ([.ref (ad g 12 0), .int x1] : List Value) (n := 2) (Nat.le_of_ble_eq_true rfl)
  generalize (lg_sl ([.ref (ad g 12 0), .int x1] : List Value) ++ List.replicate (2 - (lg_sl ([.ref (ad g 12 0), .int x1] : List Value)).length) Slot.unset).toArray = ls at hl ⊢
  have hl : lv_has ls 2 [(0, .ref (ad g 12 0)), (1, .int x1)] := hl
  rw [← ha]
  show W p l e rm_X5_number s m args below meth c s.heap [] 0 0 (MQ below (CI g mZ r0) args s 0 0 (gA g)) (F0 m 0 ls [])
  unfold fX5_number at hf
  refine lv_iload_n hx hb dX5_number_0 rfl (lv_at hl 1 rfl) ?_
  by_cases c1 : x1 = 0
  · replace hf := ite_t hf c1
    refine lv_tableIn (off := 63) (tgt := 64) hx hb dX5_number_1 (by rw [c1]; decide) (by rw [c1]; decide) (by rw [c1]; rfl) (by decide) ?_
    refine lv_aload_n hx hb dX5_number_64 rfl (lv_at hl 0 rfl) ?_
    refine gf_12_1 X hW (by decide) mw_252 dX5_number_65 ?_
    refine gf_0_7 X hW (by decide) mw_134 dX5_number_68 ?_
    obtain ⟨hf, hm⟩ := prinj hf
    replace hW := hW.same hm.symm
    exact e_i X hr hW (hf) dX5_number_71
  · replace hf := ite_f hf c1
    by_cases c5 : x1 = 1
    · replace hf := ite_t hf c5
      refine lv_tableIn (off := 71) (tgt := 72) hx hb dX5_number_1 (by rw [c5]; decide) (by rw [c5]; decide) (by rw [c5]; rfl) (by decide) ?_
      refine lv_aload_n hx hb dX5_number_72 rfl (lv_at hl 0 rfl) ?_
      refine gf_12_1 X hW (by decide) mw_252 dX5_number_73 ?_
      obtain ⟨r3, e2, hf⟩ := bnd_ex hf
      refine k_i X hW (k_V (As := []) (rest := []) X hW hml hl.1 (c_X2_roundTicks l g hDW 0 (by decide)  mm _ e2) (r_recv X hW 0 0 (by decide) (by decide) rfl rfl) ⟨mw_496, kw_X2_roundTicks⟩ ⟨⟨rfl, rfl⟩, ko_X2_roundTicks, ⟨Nat.le_of_ble_eq_true rfl, Nat.le_of_ble_eq_true rfl⟩⟩ rfl rfl (Nat.le_of_ble_eq_true rfl) dX5_number_76 ⟨Nat.le_of_ble_eq_true rfl, Nat.le_of_ble_eq_true rfl⟩) (fun H locs hW => ?_)
      obtain ⟨hf, hm⟩ := prinj hf
      replace hW := hW.same hm.symm
      exact e_i X hr hW (hf) dX5_number_79
    · replace hf := ite_f hf c5
      by_cases c6 : x1 = 2
      · replace hf := ite_t hf c6
        refine lv_tableIn (off := 79) (tgt := 80) hx hb dX5_number_1 (by rw [c6]; decide) (by rw [c6]; decide) (by rw [c6]; rfl) (by decide) ?_
        refine lv_aload_n hx hb dX5_number_80 rfl (lv_at hl 0 rfl) ?_
        refine gf_12_1 X hW (by decide) mw_252 dX5_number_81 ?_
        refine gf_0_8 X hW (by decide) mw_136 dX5_number_84 ?_
        obtain ⟨hf, hm⟩ := prinj hf
        replace hW := hW.same hm.symm
        exact e_i X hr hW (hf) dX5_number_87
      · replace hf := ite_f hf c6
        by_cases c10 : x1 = 3
        · replace hf := ite_t hf c10
          refine lv_tableIn (off := 87) (tgt := 88) hx hb dX5_number_1 (by rw [c10]; decide) (by rw [c10]; decide) (by rw [c10]; rfl) (by decide) ?_
          refine lv_aload_n hx hb dX5_number_88 rfl (lv_at hl 0 rfl) ?_
          refine gf_12_1 X hW (by decide) mw_252 dX5_number_89 ?_
          refine lv_aload_n hx hb dX5_number_92 rfl (lv_at hl 0 rfl) ?_
          refine gf_12_1 X hW (by decide) mw_252 dX5_number_93 ?_
          refine gf_0_8 X hW (by decide) mw_136 dX5_number_96 ?_
          obtain ⟨r8, e7, hf⟩ := bnd_ex hf
          refine k_i X hW (k_V (As := [.int (gi mm 0 0 8)]) (rest := []) X hW hml hl.1 (c_X2_litIn l g hDW 0 (by decide) _ mm _ e7) (r_recv X hW 0 0 (by decide) (by decide) rfl rfl) ⟨mw_523, kw_X2_litIn⟩ ⟨⟨rfl, rfl⟩, ko_X2_litIn, ⟨Nat.le_of_ble_eq_true rfl, Nat.le_of_ble_eq_true rfl⟩⟩ rfl rfl (Nat.le_of_ble_eq_true rfl) dX5_number_99 ⟨Nat.le_of_ble_eq_true rfl, Nat.le_of_ble_eq_true rfl⟩) (fun H locs hW => ?_)
          obtain ⟨hf, hm⟩ := prinj hf
          replace hW := hW.same hm.symm
          exact e_i X hr hW (hf) dX5_number_102
        · replace hf := ite_f hf c10
          by_cases c11 : x1 = 4
          · replace hf := ite_t hf c11
            refine lv_tableIn (off := 102) (tgt := 103) hx hb dX5_number_1 (by rw [c11]; decide) (by rw [c11]; decide) (by rw [c11]; rfl) (by decide) ?_
            refine lv_aload_n hx hb dX5_number_103 rfl (lv_at hl 0 rfl) ?_
            refine gf_12_1 X hW (by decide) mw_252 dX5_number_104 ?_
            refine gf_0_9 X hW (by decide) mw_138 dX5_number_107 ?_
            obtain ⟨hf, hm⟩ := prinj hf
            replace hW := hW.same hm.symm
            exact e_i X hr hW (hf) dX5_number_110
          · replace hf := ite_f hf c11
            by_cases c15 : x1 = 5
            · replace hf := ite_t hf c15
              refine lv_tableIn (off := 110) (tgt := 111) hx hb dX5_number_1 (by rw [c15]; decide) (by rw [c15]; decide) (by rw [c15]; rfl) (by decide) ?_
              refine lv_aload_n hx hb dX5_number_111 rfl (lv_at hl 0 rfl) ?_
              obtain ⟨r13, e12, hf⟩ := bnd_ex hf
              refine k_i X hW (k_V (As := []) (rest := []) X hW hml hl.1 (c_X5_lightByTicks l g hDW   mm _ e12) (r_recv X hW 12 0 (by decide) (by decide) rfl rfl) ⟨mw_527, kw_X5_lightByTicks⟩ ⟨⟨rfl, rfl⟩, ko_X5_lightByTicks, ⟨Nat.le_of_ble_eq_true rfl, Nat.le_of_ble_eq_true rfl⟩⟩ rfl rfl (Nat.le_of_ble_eq_true rfl) dX5_number_112 ⟨Nat.le_of_ble_eq_true rfl, Nat.le_of_ble_eq_true rfl⟩) (fun H locs hW => ?_)
              obtain ⟨hf, hm⟩ := prinj hf
              replace hW := hW.same hm.symm
              exact e_i X hr hW (hf) dX5_number_115
            · replace hf := ite_f hf c15
              by_cases c19 : x1 = 6
              · replace hf := ite_t hf c19
                refine lv_tableIn (off := 115) (tgt := 116) hx hb dX5_number_1 (by rw [c19]; decide) (by rw [c19]; decide) (by rw [c19]; rfl) (by decide) ?_
                refine lv_aload_n hx hb dX5_number_116 rfl (lv_at hl 0 rfl) ?_
                obtain ⟨r17, e16, hf⟩ := bnd_ex hf
                refine k_i X hW (k_V (As := []) (rest := []) X hW hml hl.1 (c_X5_lightBySlots l g hDW   mm _ e16) (r_recv X hW 12 0 (by decide) (by decide) rfl rfl) ⟨mw_537, kw_X5_lightBySlots⟩ ⟨⟨rfl, rfl⟩, ko_X5_lightBySlots, ⟨Nat.le_of_ble_eq_true rfl, Nat.le_of_ble_eq_true rfl⟩⟩ rfl rfl (Nat.le_of_ble_eq_true rfl) dX5_number_117 ⟨Nat.le_of_ble_eq_true rfl, Nat.le_of_ble_eq_true rfl⟩) (fun H locs hW => ?_)
                obtain ⟨hf, hm⟩ := prinj hf
                replace hW := hW.same hm.symm
                exact e_i X hr hW (hf) dX5_number_120
              · replace hf := ite_f hf c19
                by_cases c20 : x1 = 7
                · replace hf := ite_t hf c20
                  refine lv_tableIn (off := 120) (tgt := 121) hx hb dX5_number_1 (by rw [c20]; decide) (by rw [c20]; decide) (by rw [c20]; rfl) (by decide) ?_
                  refine lv_aload_n hx hb dX5_number_121 rfl (lv_at hl 0 rfl) ?_
                  refine gf_12_1 X hW (by decide) mw_252 dX5_number_122 ?_
                  refine gf_0_6 X hW (by decide) mw_132 dX5_number_125 ?_
                  obtain ⟨hf, hm⟩ := prinj hf
                  replace hW := hW.same hm.symm
                  exact e_i X hr hW (hf) dX5_number_128
                · replace hf := ite_f hf c20
                  by_cases c24 : x1 = 8
                  · replace hf := ite_t hf c24
                    refine lv_tableIn (off := 128) (tgt := 129) hx hb dX5_number_1 (by rw [c24]; decide) (by rw [c24]; decide) (by rw [c24]; rfl) (by decide) ?_
                    refine lv_aload_n hx hb dX5_number_129 rfl (lv_at hl 0 rfl) ?_
                    obtain ⟨r22, e21, hf⟩ := bnd_ex hf
                    refine k_i X hW (k_V (As := []) (rest := []) X hW hml hl.1 (c_X5_workingSlots l g hDW   mm _ e21) (r_recv X hW 12 0 (by decide) (by decide) rfl rfl) ⟨mw_541, kw_X5_workingSlots⟩ ⟨⟨rfl, rfl⟩, ko_X5_workingSlots, ⟨Nat.le_of_ble_eq_true rfl, Nat.le_of_ble_eq_true rfl⟩⟩ rfl rfl (Nat.le_of_ble_eq_true rfl) dX5_number_130 ⟨Nat.le_of_ble_eq_true rfl, Nat.le_of_ble_eq_true rfl⟩) (fun H locs hW => ?_)
                    obtain ⟨hf, hm⟩ := prinj hf
                    replace hW := hW.same hm.symm
                    exact e_i X hr hW (hf) dX5_number_133
                  · replace hf := ite_f hf c24
                    by_cases c28 : x1 = 9
                    · replace hf := ite_t hf c28
                      refine lv_tableIn (off := 133) (tgt := 134) hx hb dX5_number_1 (by rw [c28]; decide) (by rw [c28]; decide) (by rw [c28]; rfl) (by decide) ?_
                      refine lv_aload_n hx hb dX5_number_134 rfl (lv_at hl 0 rfl) ?_
                      obtain ⟨r26, m27, e25, hf⟩ := bn2_ex hf
                      refine k_i X hW (k_V (As := []) (rest := []) X hW hml hl.1 (c_X5_slotsReadAsTheirSigns l g hDW   mm _ _ e25) (r_recv X hW 12 0 (by decide) (by decide) rfl rfl) ⟨mw_545, kw_X5_slotsReadAsTheirSigns⟩ ⟨⟨rfl, rfl⟩, ko_X5_slotsReadAsTheirSigns, ⟨Nat.le_of_ble_eq_true rfl, Nat.le_of_ble_eq_true rfl⟩⟩ rfl rfl (Nat.le_of_ble_eq_true rfl) dX5_number_135 ⟨Nat.le_of_ble_eq_true rfl, Nat.le_of_ble_eq_true rfl⟩) (fun H locs hW => ?_)
                      obtain ⟨hf, hm⟩ := prinj hf
                      replace hW := hW.same hm.symm
                      exact e_i X hr hW (hf) dX5_number_138
                    · replace hf := ite_f hf c28
                      by_cases c32 : x1 = 10
                      · replace hf := ite_t hf c32
                        refine lv_tableIn (off := 138) (tgt := 139) hx hb dX5_number_1 (by rw [c32]; decide) (by rw [c32]; decide) (by rw [c32]; rfl) (by decide) ?_
                        refine lv_aload_n hx hb dX5_number_139 rfl (lv_at hl 0 rfl) ?_
                        obtain ⟨r30, m31, e29, hf⟩ := bn2_ex hf
                        refine k_i X hW (k_V (As := []) (rest := []) X hW hml hl.1 (c_X5_unevenness l g hDW   mm _ _ e29) (r_recv X hW 12 0 (by decide) (by decide) rfl rfl) ⟨mw_549, kw_X5_unevenness⟩ ⟨⟨rfl, rfl⟩, ko_X5_unevenness, ⟨Nat.le_of_ble_eq_true rfl, Nat.le_of_ble_eq_true rfl⟩⟩ rfl rfl (Nat.le_of_ble_eq_true rfl) dX5_number_140 ⟨Nat.le_of_ble_eq_true rfl, Nat.le_of_ble_eq_true rfl⟩) (fun H locs hW => ?_)
                        obtain ⟨hf, hm⟩ := prinj hf
                        replace hW := hW.same hm.symm
                        exact e_i X hr hW (hf) dX5_number_143
                      · replace hf := ite_f hf c32
                        by_cases c36 : x1 = 11
                        · replace hf := ite_t hf c36
                          refine lv_tableIn (off := 143) (tgt := 144) hx hb dX5_number_1 (by rw [c36]; decide) (by rw [c36]; decide) (by rw [c36]; rfl) (by decide) ?_
                          refine lv_aload_n hx hb dX5_number_144 rfl (lv_at hl 0 rfl) ?_
                          obtain ⟨r34, m35, e33, hf⟩ := bn2_ex hf
                          refine k_i X hW (k_V (As := []) (rest := []) X hW hml hl.1 (c_X5_flicker l g hDW   mm _ _ e33) (r_recv X hW 12 0 (by decide) (by decide) rfl rfl) ⟨mw_556, kw_X5_flicker⟩ ⟨⟨rfl, rfl⟩, ko_X5_flicker, ⟨Nat.le_of_ble_eq_true rfl, Nat.le_of_ble_eq_true rfl⟩⟩ rfl rfl (Nat.le_of_ble_eq_true rfl) dX5_number_145 ⟨Nat.le_of_ble_eq_true rfl, Nat.le_of_ble_eq_true rfl⟩) (fun H locs hW => ?_)
                          obtain ⟨hf, hm⟩ := prinj hf
                          replace hW := hW.same hm.symm
                          exact e_i X hr hW (hf) dX5_number_148
                        · replace hf := ite_f hf c36
                          refine lv_tableOut (tgt := 149) hx hb dX5_number_1 (tb_out0_12 c1 c5 c6 c10 c11 c15 c19 c20 c24 c28 c32 c36) (by decide) ?_
                          refine lv_aload_n hx hb dX5_number_149 rfl (lv_at hl 0 rfl) ?_
                          refine gf_12_9 X hW (by decide) mw_260 dX5_number_150 ?_
                          obtain ⟨hf, hm⟩ := prinj hf
                          replace hW := hW.same hm.symm
                          exact e_i X hr hW (hf) dX5_number_153
set_option maxRecDepth 100000 in
set_option maxHeartbeats 4000000 in
theorem c_X5_alikeSigns (l : Launch) (g : gG) (hDW : DW g) (x1 : Int32) (mm : gM) (r0 : Int32) (hf : fX5_alikeSigns x1 mm = some r0) : Met l yX5_alikeSigns (Cond.code yX5_alikeSigns cX5_alikeSigns 6 (some .int) :: ALLW) rm_X5_alikeSigns (CPre g mm [.ref (ad g 12 0), .int x1]) (CI g mm r0) 0 0 (gA g) := by
  refine Met.ofW (cc := cX5_alikeSigns) (maxL := 6) (ret := (some .int)) (by decide) rfl ?_
  intro p e s m args below meth c s₁ B hml hv
  obtain ⟨ha, hFx, hP0, hlo⟩ := hv
  have X : Cx g p s m args c meth RX5 cX5_alikeSigns := Cx_of hDW hFx hlo B
  have hx := X.1
  have hb := X.2.1
  have hr := B.returns
  have hlocks := X.2.2.2.2.2.2.2
  have hW : Wd g mm s s.heap [] := ⟨hP0, va_S.rf⟩
  rw [ha, lg_entry_eq]
  have hl := lv_entry ([.ref (ad g 12 0), .int x1] : List Value) (n := 6) (Nat.le_of_ble_eq_true rfl)
  generalize (lg_sl ([.ref (ad g 12 0), .int x1] : List Value) ++ List.replicate (6 - (lg_sl ([.ref (ad g 12 0), .int x1] : List Value)).length) Slot.unset).toArray = ls at hl ⊢
  have hl : lv_has ls 6 [(0, .ref (ad g 12 0)), (1, .int x1)] := hl
  rw [← ha]
  show W p l e rm_X5_alikeSigns s m args below meth c s.heap [] 0 0 (MQ below (CI g mm r0) args s 0 0 (gA g)) (F0 m 0 ls [])
  have P_32 : ∀ (n32 : Nat) (x2 : Int32) (x3 : Int32) (x4 : Int32) (x5 : Int32) (H : Heap) (locs : List Loc) (ls : Array Slot), Wd g mm s H locs → lv_has ls 6 [(2, .int x2), (3, .int x3), (4, .int x4), (5, .int x5)] → lX5_alikeSigns_32 mm n32 x2 x3 x4 x5 = some r0 → W p l e rm_X5_alikeSigns s m args below meth c H locs 0 0 (MQ below (CI g mm r0) args s 0 0 (gA g)) (F0 m 32 ls []) := by
    intro n32
    induction n32 with
    | zero => intro x2 x3 x4 x5 H locs ls hW hl hf; exact (no_some hf).elim
    | succ n32 ih_32 =>
      have P_53 : ∀ (x2 : Int32) (x3 : Int32) (x4 : Int32) (x5 : Int32) (H : Heap) (locs : List Loc) (ls : Array Slot), Wd g mm s H locs → lv_has ls 6 [(2, .int x2), (3, .int x3), (4, .int x4), (5, .int x5)] → jX5_alikeSigns_53 (lX5_alikeSigns_32 mm n32) mm x2 x3 x4 x5 = some r0 → W p l e rm_X5_alikeSigns s m args below meth c H locs 0 0 (MQ below (CI g mm r0) args s 0 0 (gA g)) (F0 m 53 ls []) := by
        intro x2 x3 x4 x5 H locs ls hW hl hf
        unfold jX5_alikeSigns_53 at hf
        refine lv_iinc (v := x5 + 1) (lv' := [(5, .int (x5 + 1)), (2, .int x2), (3, .int x3), (4, .int x4)]) hx hb dX5_alikeSigns_53 hl (k := 3) rfl rfl (by decide) rfl (fun ls hl => ?_)
        refine lv_goto (tgt := 32) hx hb dX5_alikeSigns_56 (by decide) ?_
        exact ih_32 _ _ _ _ _ _ _ hW (lv_sub hl [1, 2, 3, 0] rfl) hf
      intro x2 x3 x4 x5 H locs ls hW hl hf
      rw [lX5_alikeSigns_32_s] at hf
      refine lv_iload hx hb dX5_alikeSigns_32 (lv_at hl 3 rfl) ?_
      refine lv_bipush (v := 18) hx hb dX5_alikeSigns_34 (by decide) ?_
      refine lv_icmp_ge (tgt := 59) hx hb dX5_alikeSigns_36 (by decide) (fun c12 => ?_) (fun c12 => ?_)
      · replace hf := ite_t hf c12
        refine lv_iload hx hb dX5_alikeSigns_59 (lv_at hl 2 rfl) ?_
        exact e_i X hr hW (someinj hf) dX5_alikeSigns_61
      · replace hf := ite_f hf c12
        refine lv_iload hx hb dX5_alikeSigns_39 (lv_at hl 3 rfl) ?_
        obtain ⟨r9, e8, hf⟩ := bnd_ex hf
        refine k_i X hW (k_S (As := [.int x5]) (rest := []) X hW hml hl.1 (c_X5_maskOf l g hDW  _ mm _ e8) ⟨mw_581, kw_X5_maskOf⟩ ⟨⟨rfl, rfl⟩, ko_X5_maskOf, ⟨Nat.le_of_ble_eq_true rfl, Nat.le_of_ble_eq_true rfl⟩⟩ rfl rfl (Nat.le_of_ble_eq_true rfl) dX5_alikeSigns_41 ⟨Nat.le_of_ble_eq_true rfl, Nat.le_of_ble_eq_true rfl⟩) (fun H locs hW => ?_)
        refine lv_iload_n hx hb dX5_alikeSigns_44 rfl (lv_at hl 0 rfl) ?_
        refine lv_iand hx hb dX5_alikeSigns_45 ?_
        refine lv_iload_n hx hb dX5_alikeSigns_46 rfl (lv_at hl 1 rfl) ?_
        refine lv_icmp_ne (tgt := 53) hx hb dX5_alikeSigns_47 (by decide) (fun c11 => ?_) (fun c11 => ?_)
        · replace hf := ite_f hf c11
          exact P_53 _ _ _ _ _ _ _ hW (lv_sub hl [0, 1, 2, 3] rfl) hf
        · replace hf := ite_t hf c11
          refine lv_iinc (v := x4 + 1) (lv' := [(4, .int (x4 + 1)), (2, .int x2), (3, .int x3), (5, .int x5)]) hx hb dX5_alikeSigns_50 hl (k := 2) rfl rfl (by decide) rfl (fun ls hl => ?_)
          exact P_53 _ _ _ _ _ _ _ hW (lv_sub hl [1, 2, 0, 3] rfl) hf
  unfold fX5_alikeSigns at hf
  refine lv_aload_n hx hb dX5_alikeSigns_0 rfl (lv_at hl 0 rfl) ?_
  refine gf_12_1 X hW (by decide) mw_252 dX5_alikeSigns_1 ?_
  refine lv_iload_n hx hb dX5_alikeSigns_4 rfl (lv_at hl 1 rfl) ?_
  obtain ⟨r2, e1, hf⟩ := bnd_ex hf
  refine k_i X hW (k_V (As := [.int x1]) (rest := []) X hW hml hl.1 (c_X2_failing l g hDW 0 (by decide) _ mm _ e1) (r_recv X hW 0 0 (by decide) (by decide) rfl rfl) ⟨mw_580, kw_X2_failing⟩ ⟨⟨rfl, rfl⟩, ko_X2_failing, ⟨Nat.le_of_ble_eq_true rfl, Nat.le_of_ble_eq_true rfl⟩⟩ rfl rfl (Nat.le_of_ble_eq_true rfl) dX5_alikeSigns_5 ⟨Nat.le_of_ble_eq_true rfl, Nat.le_of_ble_eq_true rfl⟩) (fun H locs hW => ?_)
  refine lv_iconst (v := -1) hx hb dX5_alikeSigns_8 (by decide) ?_
  refine lv_ixor hx hb dX5_alikeSigns_9 ?_
  refine lv_istore_n (lv' := [(2, .int (r2 ^^^ (-1))), (0, .ref (ad g 12 0)), (1, .int x1)]) hx hb dX5_alikeSigns_10 rfl hl (by decide) rfl (fun ls hl => ?_)
  refine lv_aload_n hx hb dX5_alikeSigns_11 rfl (lv_at hl 1 rfl) ?_
  refine gf_12_1 X hW (by decide) mw_252 dX5_alikeSigns_12 ?_
  refine gf_0_0 X hW (by decide) mw_113 dX5_alikeSigns_15 ?_
  refine lv_iload_n hx hb dX5_alikeSigns_18 rfl (lv_at hl 2 rfl) ?_
  obtain ⟨b4, hf⟩ := chk_ex hf
  refine r_iald X hW 1 0 (by decide) (by decide) rfl b4 dX5_alikeSigns_19 ?_
  obtain ⟨r6, e5, hf⟩ := bnd_ex hf
  refine k_i X hW (k_S (As := [.int (gi mm 1 0 x1.toNatClampNeg)]) (rest := []) X hW hml hl.1 (c_X5_maskOf l g hDW  _ mm _ e5) ⟨mw_581, kw_X5_maskOf⟩ ⟨⟨rfl, rfl⟩, ko_X5_maskOf, ⟨Nat.le_of_ble_eq_true rfl, Nat.le_of_ble_eq_true rfl⟩⟩ rfl rfl (Nat.le_of_ble_eq_true rfl) dX5_alikeSigns_20 ⟨Nat.le_of_ble_eq_true rfl, Nat.le_of_ble_eq_true rfl⟩) (fun H locs hW => ?_)
  refine lv_iload_n hx hb dX5_alikeSigns_23 rfl (lv_at hl 0 rfl) ?_
  refine lv_iand hx hb dX5_alikeSigns_24 ?_
  refine lv_istore_n (lv' := [(3, .int (r6 &&& (r2 ^^^ (-1)))), (2, .int (r2 ^^^ (-1))), (0, .ref (ad g 12 0)), (1, .int x1)]) hx hb dX5_alikeSigns_25 rfl hl (by decide) rfl (fun ls hl => ?_)
  refine lv_iconst (v := 0) hx hb dX5_alikeSigns_26 (by decide) ?_
  refine lv_istore (lv' := [(4, .int 0), (3, .int (r6 &&& (r2 ^^^ (-1)))), (2, .int (r2 ^^^ (-1))), (0, .ref (ad g 12 0)), (1, .int x1)]) hx hb dX5_alikeSigns_27 hl (by decide) rfl (fun ls hl => ?_)
  refine lv_iconst (v := 0) hx hb dX5_alikeSigns_29 (by decide) ?_
  refine lv_istore (lv' := [(5, .int 0), (4, .int 0), (3, .int (r6 &&& (r2 ^^^ (-1)))), (2, .int (r2 ^^^ (-1))), (0, .ref (ad g 12 0)), (1, .int x1)]) hx hb dX5_alikeSigns_30 hl (by decide) rfl (fun ls hl => ?_)
  exact P_32 _ _ _ _ _ _ _ _ hW (lv_sub hl [3, 2, 1, 0] rfl) hf
set_option maxRecDepth 100000 in
set_option maxHeartbeats 4000000 in
theorem c_X5_lowestAlike (l : Launch) (g : gG) (hDW : DW g) (x1 : Int32) (mm : gM) (r0 : Int32) (hf : fX5_lowestAlike x1 mm = some r0) : Met l yX5_lowestAlike (Cond.code yX5_lowestAlike cX5_lowestAlike 5 (some .int) :: ALLW) rm_X5_lowestAlike (CPre g mm [.ref (ad g 12 0), .int x1]) (CI g mm r0) 0 0 (gA g) := by
  refine Met.ofW (cc := cX5_lowestAlike) (maxL := 5) (ret := (some .int)) (by decide) rfl ?_
  intro p e s m args below meth c s₁ B hml hv
  obtain ⟨ha, hFx, hP0, hlo⟩ := hv
  have X : Cx g p s m args c meth RX5 cX5_lowestAlike := Cx_of hDW hFx hlo B
  have hx := X.1
  have hb := X.2.1
  have hr := B.returns
  have hlocks := X.2.2.2.2.2.2.2
  have hW : Wd g mm s s.heap [] := ⟨hP0, va_S.rf⟩
  rw [ha, lg_entry_eq]
  have hl := lv_entry ([.ref (ad g 12 0), .int x1] : List Value) (n := 5) (Nat.le_of_ble_eq_true rfl)
  generalize (lg_sl ([.ref (ad g 12 0), .int x1] : List Value) ++ List.replicate (5 - (lg_sl ([.ref (ad g 12 0), .int x1] : List Value)).length) Slot.unset).toArray = ls at hl ⊢
  have hl : lv_has ls 5 [(0, .ref (ad g 12 0)), (1, .int x1)] := hl
  rw [← ha]
  show W p l e rm_X5_lowestAlike s m args below meth c s.heap [] 0 0 (MQ below (CI g mm r0) args s 0 0 (gA g)) (F0 m 0 ls [])
  have P_56 : ∀ (x1 : Int32) (H : Heap) (locs : List Loc) (ls : Array Slot), Wd g mm s H locs → lv_has ls 5 [(0, .ref (ad g 12 0)), (1, .int x1)] → jX5_lowestAlike_56 mm x1 = some r0 → W p l e rm_X5_lowestAlike s m args below meth c H locs 0 0 (MQ below (CI g mm r0) args s 0 0 (gA g)) (F0 m 56 ls []) := by
    intro x1 H locs ls hW hl hf
    unfold jX5_lowestAlike_56 at hf
    refine lv_aload_n hx hb dX5_lowestAlike_56 rfl (lv_at hl 0 rfl) ?_
    refine gf_12_1 X hW (by decide) mw_252 dX5_lowestAlike_57 ?_
    refine gf_0_0 X hW (by decide) mw_113 dX5_lowestAlike_60 ?_
    refine lv_iload_n hx hb dX5_lowestAlike_63 rfl (lv_at hl 1 rfl) ?_
    obtain ⟨b13, hf⟩ := chk_ex hf
    refine r_iald X hW 1 0 (by decide) (by decide) rfl b13 dX5_lowestAlike_64 ?_
    exact e_i X hr hW (someinj hf) dX5_lowestAlike_65
  have P_29 : ∀ (n29 : Nat) (x1 : Int32) (x2 : Int32) (x3 : Int32) (x4 : Int32) (H : Heap) (locs : List Loc) (ls : Array Slot), Wd g mm s H locs → lv_has ls 5 [(0, .ref (ad g 12 0)), (1, .int x1), (2, .int x2), (3, .int x3), (4, .int x4)] → lX5_lowestAlike_29 mm n29 x1 x2 x3 x4 = some r0 → W p l e rm_X5_lowestAlike s m args below meth c H locs 0 0 (MQ below (CI g mm r0) args s 0 0 (gA g)) (F0 m 29 ls []) := by
    intro n29
    induction n29 with
    | zero => intro x1 x2 x3 x4 H locs ls hW hl hf; exact (no_some hf).elim
    | succ n29 ih_29 =>
      intro x1 x2 x3 x4 H locs ls hW hl hf
      rw [lX5_lowestAlike_29_s] at hf
      refine lv_iload hx hb dX5_lowestAlike_29 (lv_at hl 4 rfl) ?_
      refine lv_bipush (v := 18) hx hb dX5_lowestAlike_31 (by decide) ?_
      refine lv_icmp_ge (tgt := 56) hx hb dX5_lowestAlike_33 (by decide) (fun c12 => ?_) (fun c12 => ?_)
      · replace hf := ite_t hf c12
        exact P_56 _ _ _ _ hW (lv_sub hl [0, 1] rfl) hf
      · replace hf := ite_f hf c12
        refine lv_iload hx hb dX5_lowestAlike_36 (lv_at hl 4 rfl) ?_
        obtain ⟨r9, e8, hf⟩ := bnd_ex hf
        refine k_i X hW (k_S (As := [.int x4]) (rest := []) X hW hml hl.1 (c_X5_maskOf l g hDW  _ mm _ e8) ⟨mw_581, kw_X5_maskOf⟩ ⟨⟨rfl, rfl⟩, ko_X5_maskOf, ⟨Nat.le_of_ble_eq_true rfl, Nat.le_of_ble_eq_true rfl⟩⟩ rfl rfl (Nat.le_of_ble_eq_true rfl) dX5_lowestAlike_38 ⟨Nat.le_of_ble_eq_true rfl, Nat.le_of_ble_eq_true rfl⟩) (fun H locs hW => ?_)
        refine lv_iload_n hx hb dX5_lowestAlike_41 rfl (lv_at hl 2 rfl) ?_
        refine lv_iand hx hb dX5_lowestAlike_42 ?_
        refine lv_iload_n hx hb dX5_lowestAlike_43 rfl (lv_at hl 3 rfl) ?_
        refine lv_icmp_ne (tgt := 50) hx hb dX5_lowestAlike_44 (by decide) (fun c11 => ?_) (fun c11 => ?_)
        · replace hf := ite_f hf c11
          refine lv_iinc (v := x4 + 1) (lv' := [(4, .int (x4 + 1)), (0, .ref (ad g 12 0)), (1, .int x1), (2, .int x2), (3, .int x3)]) hx hb dX5_lowestAlike_50 hl (k := 4) rfl rfl (by decide) rfl (fun ls hl => ?_)
          refine lv_goto (tgt := 29) hx hb dX5_lowestAlike_53 (by decide) ?_
          exact ih_29 _ _ _ _ _ _ _ hW (lv_sub hl [1, 2, 3, 4, 0] rfl) hf
        · replace hf := ite_t hf c11
          refine lv_iload hx hb dX5_lowestAlike_47 (lv_at hl 4 rfl) ?_
          exact e_i X hr hW (someinj hf) dX5_lowestAlike_49
  unfold fX5_lowestAlike at hf
  refine lv_aload_n hx hb dX5_lowestAlike_0 rfl (lv_at hl 0 rfl) ?_
  refine gf_12_1 X hW (by decide) mw_252 dX5_lowestAlike_1 ?_
  refine lv_iload_n hx hb dX5_lowestAlike_4 rfl (lv_at hl 1 rfl) ?_
  obtain ⟨r2, e1, hf⟩ := bnd_ex hf
  refine k_i X hW (k_V (As := [.int x1]) (rest := []) X hW hml hl.1 (c_X2_failing l g hDW 0 (by decide) _ mm _ e1) (r_recv X hW 0 0 (by decide) (by decide) rfl rfl) ⟨mw_580, kw_X2_failing⟩ ⟨⟨rfl, rfl⟩, ko_X2_failing, ⟨Nat.le_of_ble_eq_true rfl, Nat.le_of_ble_eq_true rfl⟩⟩ rfl rfl (Nat.le_of_ble_eq_true rfl) dX5_lowestAlike_5 ⟨Nat.le_of_ble_eq_true rfl, Nat.le_of_ble_eq_true rfl⟩) (fun H locs hW => ?_)
  refine lv_iconst (v := -1) hx hb dX5_lowestAlike_8 (by decide) ?_
  refine lv_ixor hx hb dX5_lowestAlike_9 ?_
  refine lv_istore_n (lv' := [(2, .int (r2 ^^^ (-1))), (0, .ref (ad g 12 0)), (1, .int x1)]) hx hb dX5_lowestAlike_10 rfl hl (by decide) rfl (fun ls hl => ?_)
  refine lv_aload_n hx hb dX5_lowestAlike_11 rfl (lv_at hl 1 rfl) ?_
  refine gf_12_1 X hW (by decide) mw_252 dX5_lowestAlike_12 ?_
  refine gf_0_0 X hW (by decide) mw_113 dX5_lowestAlike_15 ?_
  refine lv_iload_n hx hb dX5_lowestAlike_18 rfl (lv_at hl 2 rfl) ?_
  obtain ⟨b4, hf⟩ := chk_ex hf
  refine r_iald X hW 1 0 (by decide) (by decide) rfl b4 dX5_lowestAlike_19 ?_
  obtain ⟨r6, e5, hf⟩ := bnd_ex hf
  refine k_i X hW (k_S (As := [.int (gi mm 1 0 x1.toNatClampNeg)]) (rest := []) X hW hml hl.1 (c_X5_maskOf l g hDW  _ mm _ e5) ⟨mw_581, kw_X5_maskOf⟩ ⟨⟨rfl, rfl⟩, ko_X5_maskOf, ⟨Nat.le_of_ble_eq_true rfl, Nat.le_of_ble_eq_true rfl⟩⟩ rfl rfl (Nat.le_of_ble_eq_true rfl) dX5_lowestAlike_20 ⟨Nat.le_of_ble_eq_true rfl, Nat.le_of_ble_eq_true rfl⟩) (fun H locs hW => ?_)
  refine lv_iload_n hx hb dX5_lowestAlike_23 rfl (lv_at hl 0 rfl) ?_
  refine lv_iand hx hb dX5_lowestAlike_24 ?_
  refine lv_istore_n (lv' := [(3, .int (r6 &&& (r2 ^^^ (-1)))), (2, .int (r2 ^^^ (-1))), (0, .ref (ad g 12 0)), (1, .int x1)]) hx hb dX5_lowestAlike_25 rfl hl (by decide) rfl (fun ls hl => ?_)
  refine lv_iconst (v := 0) hx hb dX5_lowestAlike_26 (by decide) ?_
  refine lv_istore (lv' := [(4, .int 0), (3, .int (r6 &&& (r2 ^^^ (-1)))), (2, .int (r2 ^^^ (-1))), (0, .ref (ad g 12 0)), (1, .int x1)]) hx hb dX5_lowestAlike_27 hl (by decide) rfl (fun ls hl => ?_)
  exact P_29 _ _ _ _ _ _ _ _ hW (lv_sub hl [3, 4, 2, 1, 0] rfl) hf
set_option maxRecDepth 100000 in
set_option maxHeartbeats 4000000 in
theorem c_X5_meanIfTimed (l : Launch) (g : gG) (hDW : DW g) (x1 : Int32) (x2 : Int32) (mm : gM) (r0 : Int32) (mZ : gM) (hf : fX5_meanIfTimed x1 x2 mm = some (r0, mZ)) : Met l yX5_meanIfTimed (Cond.code yX5_meanIfTimed cX5_meanIfTimed 3 (some .int) :: ALLW) rm_X5_meanIfTimed (CPre g mm [.ref (ad g 12 0), .int x1, .int x2]) (CI g mZ r0) 0 0 (gA g) := by
  refine Met.ofW (cc := cX5_meanIfTimed) (maxL := 3) (ret := (some .int)) (by decide) rfl ?_
  intro p e s m args below meth c s₁ B hml hv
  obtain ⟨ha, hFx, hP0, hlo⟩ := hv
  have X : Cx g p s m args c meth RX5 cX5_meanIfTimed := Cx_of hDW hFx hlo B
  have hx := X.1
  have hb := X.2.1
  have hr := B.returns
  have hlocks := X.2.2.2.2.2.2.2
  have hW : Wd g mm s s.heap [] := ⟨hP0, va_S.rf⟩
  rw [ha, lg_entry_eq]
  have hl := lv_entry ([.ref (ad g 12 0), .int x1, .int x2] : List Value) (n := 3) (Nat.le_of_ble_eq_true rfl)
  generalize (lg_sl ([.ref (ad g 12 0), .int x1, .int x2] : List Value) ++ List.replicate (3 - (lg_sl ([.ref (ad g 12 0), .int x1, .int x2] : List Value)).length) Slot.unset).toArray = ls at hl ⊢
  have hl : lv_has ls 3 [(0, .ref (ad g 12 0)), (1, .int x1), (2, .int x2)] := hl
  rw [← ha]
  show W p l e rm_X5_meanIfTimed s m args below meth c s.heap [] 0 0 (MQ below (CI g mZ r0) args s 0 0 (gA g)) (F0 m 0 ls [])
  unfold fX5_meanIfTimed at hf
  refine lv_aload_n hx hb dX5_meanIfTimed_0 rfl (lv_at hl 0 rfl) ?_
  refine gf_12_2 X hW (by decide) mw_253 dX5_meanIfTimed_1 ?_
  refine gf_6_0 X hW (by decide) mw_194 dX5_meanIfTimed_4 ?_
  refine lv_aload_n hx hb dX5_meanIfTimed_7 rfl (lv_at hl 0 rfl) ?_
  refine gf_12_1 X hW (by decide) mw_252 dX5_meanIfTimed_8 ?_
  obtain ⟨m3, e1, hf⟩ := bnd_ex hf
  refine k_v X hW (k_V (As := [.ref (ad g 0 0)]) (rest := []) X hW hml hl.1 (c_X2_copyFrom l g hDW 1 (by decide) 0 (by decide)  mm _ e1) (r_recv X hW 0 1 (by decide) (by decide) rfl rfl) ⟨mw_612, kw_X2_copyFrom⟩ ⟨⟨rfl, rfl⟩, ko_X2_copyFrom, ⟨Nat.le_of_ble_eq_true rfl, Nat.le_of_ble_eq_true rfl⟩⟩ rfl rfl (Nat.le_of_ble_eq_true rfl) dX5_meanIfTimed_11 ⟨Nat.le_of_ble_eq_true rfl, Nat.le_of_ble_eq_true rfl⟩) (fun H locs hW => ?_)
  refine lv_aload_n hx hb dX5_meanIfTimed_14 rfl (lv_at hl 0 rfl) ?_
  refine gf_12_2 X hW (by decide) mw_253 dX5_meanIfTimed_15 ?_
  refine gf_6_0 X hW (by decide) mw_194 dX5_meanIfTimed_18 ?_
  refine gf_0_2 X hW (by decide) mw_120 dX5_meanIfTimed_21 ?_
  refine lv_iload_n hx hb dX5_meanIfTimed_24 rfl (lv_at hl 1 rfl) ?_
  refine lv_iload_n hx hb dX5_meanIfTimed_25 rfl (lv_at hl 2 rfl) ?_
  obtain ⟨b4, hf⟩ := chk_ex hf
  obtain ⟨m5, ex, hf⟩ := wth_ex hf
  refine r_iast X hW 3 1 (by decide) (by decide) (fun _ => rfl) b4 dX5_meanIfTimed_26 (fun H locs hW => ?_)
  replace hW := hW.same ex
  clear ex
  refine lv_aload_n hx hb dX5_meanIfTimed_27 rfl (lv_at hl 0 rfl) ?_
  refine gf_12_2 X hW (by decide) mw_253 dX5_meanIfTimed_28 ?_
  obtain ⟨m8, e6, hf⟩ := bnd_ex hf
  refine k_v X hW (k_V (As := []) (rest := []) X hW hml hl.1 (c_X1_forget l g hDW 1 (by decide)  m5 _ e6) (r_recv X hW 6 1 (by decide) (by decide) rfl rfl) ⟨mw_619, kw_X1_forget⟩ ⟨⟨rfl, rfl⟩, ko_X1_forget, ⟨Nat.le_of_ble_eq_true rfl, Nat.le_of_ble_eq_true rfl⟩⟩ rfl rfl (Nat.le_of_ble_eq_true rfl) dX5_meanIfTimed_31 ⟨Nat.le_of_ble_eq_true rfl, Nat.le_of_ble_eq_true rfl⟩) (fun H locs hW => ?_)
  refine lv_aload_n hx hb dX5_meanIfTimed_34 rfl (lv_at hl 0 rfl) ?_
  refine gf_12_2 X hW (by decide) mw_253 dX5_meanIfTimed_35 ?_
  refine lv_iload_n hx hb dX5_meanIfTimed_38 rfl (lv_at hl 1 rfl) ?_
  obtain ⟨m11, e9, hf⟩ := bnd_ex hf
  refine k_v X hW (k_V (As := [.int x1]) (rest := []) X hW hml hl.1 (c_X1_look l g hDW 1 (by decide) _ m8 _ e9) (r_recv X hW 6 1 (by decide) (by decide) rfl rfl) ⟨mw_389, kw_X1_look⟩ ⟨⟨rfl, rfl⟩, ko_X1_look, ⟨Nat.le_of_ble_eq_true rfl, Nat.le_of_ble_eq_true rfl⟩⟩ rfl rfl (Nat.le_of_ble_eq_true rfl) dX5_meanIfTimed_39 ⟨Nat.le_of_ble_eq_true rfl, Nat.le_of_ble_eq_true rfl⟩) (fun H locs hW => ?_)
  refine lv_aload_n hx hb dX5_meanIfTimed_42 rfl (lv_at hl 0 rfl) ?_
  refine gf_12_2 X hW (by decide) mw_253 dX5_meanIfTimed_43 ?_
  refine lv_iload_n hx hb dX5_meanIfTimed_46 rfl (lv_at hl 1 rfl) ?_
  obtain ⟨r13, e12, hf⟩ := bnd_ex hf
  refine k_i X hW (k_V (As := [.int x1]) (rest := []) X hW hml hl.1 (c_X1_mean l g hDW 1 (by decide) _ m11 _ e12) (r_recv X hW 6 1 (by decide) (by decide) rfl rfl) ⟨mw_506, kw_X1_mean⟩ ⟨⟨rfl, rfl⟩, ko_X1_mean, ⟨Nat.le_of_ble_eq_true rfl, Nat.le_of_ble_eq_true rfl⟩⟩ rfl rfl (Nat.le_of_ble_eq_true rfl) dX5_meanIfTimed_47 ⟨Nat.le_of_ble_eq_true rfl, Nat.le_of_ble_eq_true rfl⟩) (fun H locs hW => ?_)
  obtain ⟨hf, hm⟩ := prinj hf
  replace hW := hW.same hm.symm
  exact e_i X hr hW (hf) dX5_meanIfTimed_50
set_option maxRecDepth 100000 in
set_option maxHeartbeats 4000000 in
theorem c_X5_timeIfBalanced (l : Launch) (g : gG) (hDW : DW g) (x1 : Int32) (x2 : Int32) (mm : gM) (r0 : Int32) (mZ : gM) (hf : fX5_timeIfBalanced x1 x2 mm = some (r0, mZ)) : Met l yX5_timeIfBalanced (Cond.code yX5_timeIfBalanced cX5_timeIfBalanced 4 (some .int) :: ALLW) rm_X5_timeIfBalanced (CPre g mm [.ref (ad g 12 0), .int x1, .int x2]) (CI g mZ r0) 0 0 (gA g) := by
  refine Met.ofW (cc := cX5_timeIfBalanced) (maxL := 4) (ret := (some .int)) (by decide) rfl ?_
  intro p e s m args below meth c s₁ B hml hv
  obtain ⟨ha, hFx, hP0, hlo⟩ := hv
  have X : Cx g p s m args c meth RX5 cX5_timeIfBalanced := Cx_of hDW hFx hlo B
  have hx := X.1
  have hb := X.2.1
  have hr := B.returns
  have hlocks := X.2.2.2.2.2.2.2
  have hW : Wd g mm s s.heap [] := ⟨hP0, va_S.rf⟩
  rw [ha, lg_entry_eq]
  have hl := lv_entry ([.ref (ad g 12 0), .int x1, .int x2] : List Value) (n := 4) (Nat.le_of_ble_eq_true rfl)
  generalize (lg_sl ([.ref (ad g 12 0), .int x1, .int x2] : List Value) ++ List.replicate (4 - (lg_sl ([.ref (ad g 12 0), .int x1, .int x2] : List Value)).length) Slot.unset).toArray = ls at hl ⊢
  have hl : lv_has ls 4 [(0, .ref (ad g 12 0)), (1, .int x1), (2, .int x2)] := hl
  rw [← ha]
  show W p l e rm_X5_timeIfBalanced s m args below meth c s.heap [] 0 0 (MQ below (CI g mZ r0) args s 0 0 (gA g)) (F0 m 0 ls [])
  unfold fX5_timeIfBalanced at hf
  refine lv_aload_n hx hb dX5_timeIfBalanced_0 rfl (lv_at hl 0 rfl) ?_
  refine gf_12_3 X hW (by decide) mw_254 dX5_timeIfBalanced_1 ?_
  refine lv_aload_n hx hb dX5_timeIfBalanced_4 rfl (lv_at hl 0 rfl) ?_
  refine gf_12_1 X hW (by decide) mw_252 dX5_timeIfBalanced_5 ?_
  refine lv_iload_n hx hb dX5_timeIfBalanced_8 rfl (lv_at hl 1 rfl) ?_
  obtain ⟨r2, m3, e1, hf⟩ := bn2_ex hf
  refine k_i X hW (k_V (As := [.ref (ad g 0 0), .int x1]) (rest := []) X hW hml hl.1 (c_X0_spread l g hDW 0 (by decide) _ mm _ _ e1) (r_recv X hW 13 0 (by decide) (by decide) rfl rfl) ⟨mw_590, kw_X0_spread⟩ ⟨⟨rfl, rfl⟩, ko_X0_spread, ⟨Nat.le_of_ble_eq_true rfl, Nat.le_of_ble_eq_true rfl⟩⟩ rfl rfl (Nat.le_of_ble_eq_true rfl) dX5_timeIfBalanced_9 ⟨Nat.le_of_ble_eq_true rfl, Nat.le_of_ble_eq_true rfl⟩) (fun H locs hW => ?_)
  refine lv_istore_n (lv' := [(3, .int r2), (0, .ref (ad g 12 0)), (1, .int x1), (2, .int x2)]) hx hb dX5_timeIfBalanced_12 rfl hl (by decide) rfl (fun ls hl => ?_)
  refine lv_iload_n hx hb dX5_timeIfBalanced_13 rfl (lv_at hl 0 rfl) ?_
  refine lv_if_ne (tgt := 21) hx hb dX5_timeIfBalanced_14 (by decide) (fun c5 => ?_) (fun c5 => ?_)
  · replace hf := ite_f hf c5
    refine lv_aload_n hx hb dX5_timeIfBalanced_21 rfl (lv_at hl 1 rfl) ?_
    refine gf_12_3 X hW (by decide) mw_254 dX5_timeIfBalanced_22 ?_
    refine gf_13_0 X hW (by decide) mw_223 dX5_timeIfBalanced_25 ?_
    refine lv_iload_n hx hb dX5_timeIfBalanced_28 rfl (lv_at hl 3 rfl) ?_
    obtain ⟨b4, hf⟩ := chk_ex hf
    refine r_iald X hW 14 0 (by decide) (by decide) rfl b4 dX5_timeIfBalanced_29 ?_
    obtain ⟨hf, hm⟩ := prinj hf
    replace hW := hW.same hm.symm
    exact e_i X hr hW (hf) dX5_timeIfBalanced_30
  · replace hf := ite_t hf c5
    refine lv_iconst (v := -1) hx hb dX5_timeIfBalanced_17 (by decide) ?_
    refine lv_goto (tgt := 30) hx hb dX5_timeIfBalanced_18 (by decide) ?_
    obtain ⟨hf, hm⟩ := prinj hf
    replace hW := hW.same hm.symm
    exact e_i X hr hW (hf) dX5_timeIfBalanced_30
set_option maxRecDepth 100000 in
set_option maxHeartbeats 4000000 in
theorem c_X5_leastHurt (l : Launch) (g : gG) (hDW : DW g) (x1 : Int32) (mm : gM) (r0 : Int32) (hf : fX5_leastHurt x1 mm = some r0) : Met l yX5_leastHurt (Cond.code yX5_leastHurt cX5_leastHurt 7 (some .int) :: ALLW) rm_X5_leastHurt (CPre g mm [.ref (ad g 12 0), .int x1]) (CI g mm r0) 0 0 (gA g) := by
  refine Met.ofW (cc := cX5_leastHurt) (maxL := 7) (ret := (some .int)) (by decide) rfl ?_
  intro p e s m args below meth c s₁ B hml hv
  obtain ⟨ha, hFx, hP0, hlo⟩ := hv
  have X : Cx g p s m args c meth RX5 cX5_leastHurt := Cx_of hDW hFx hlo B
  have hx := X.1
  have hb := X.2.1
  have hr := B.returns
  have hlocks := X.2.2.2.2.2.2.2
  have hW : Wd g mm s s.heap [] := ⟨hP0, va_S.rf⟩
  rw [ha, lg_entry_eq]
  have hl := lv_entry ([.ref (ad g 12 0), .int x1] : List Value) (n := 7) (Nat.le_of_ble_eq_true rfl)
  generalize (lg_sl ([.ref (ad g 12 0), .int x1] : List Value) ++ List.replicate (7 - (lg_sl ([.ref (ad g 12 0), .int x1] : List Value)).length) Slot.unset).toArray = ls at hl ⊢
  have hl : lv_has ls 7 [(0, .ref (ad g 12 0)), (1, .int x1)] := hl
  rw [← ha]
  show W p l e rm_X5_leastHurt s m args below meth c s.heap [] 0 0 (MQ below (CI g mm r0) args s 0 0 (gA g)) (F0 m 0 ls [])
  have P_18 : ∀ (n18 : Nat) (x2 : Int32) (x3 : Int32) (x4 : Int32) (x5 : Int32) (H : Heap) (locs : List Loc) (ls : Array Slot), Wd g mm s H locs → lv_has ls 7 [(2, .int x2), (3, .int x3), (4, .int x4), (5, .int x5)] → lX5_leastHurt_18 mm n18 x2 x3 x4 x5 = some r0 → W p l e rm_X5_leastHurt s m args below meth c H locs 0 0 (MQ below (CI g mm r0) args s 0 0 (gA g)) (F0 m 18 ls []) := by
    intro n18
    induction n18 with
    | zero => intro x2 x3 x4 x5 H locs ls hW hl hf; exact (no_some hf).elim
    | succ n18 ih_18 =>
      have P_67 : ∀ (x2 : Int32) (x3 : Int32) (x4 : Int32) (x5 : Int32) (H : Heap) (locs : List Loc) (ls : Array Slot), Wd g mm s H locs → lv_has ls 7 [(2, .int x2), (3, .int x3), (4, .int x4), (5, .int x5)] → jX5_leastHurt_67 (lX5_leastHurt_18 mm n18) mm x2 x3 x4 x5 = some r0 → W p l e rm_X5_leastHurt s m args below meth c H locs 0 0 (MQ below (CI g mm r0) args s 0 0 (gA g)) (F0 m 67 ls []) := by
        intro x2 x3 x4 x5 H locs ls hW hl hf
        unfold jX5_leastHurt_67 at hf
        refine lv_iinc (v := x5 + 1) (lv' := [(5, .int (x5 + 1)), (2, .int x2), (3, .int x3), (4, .int x4)]) hx hb dX5_leastHurt_67 hl (k := 3) rfl rfl (by decide) rfl (fun ls hl => ?_)
        refine lv_goto (tgt := 18) hx hb dX5_leastHurt_70 (by decide) ?_
        exact ih_18 _ _ _ _ _ _ _ hW (lv_sub hl [1, 2, 3, 0] rfl) hf
      intro x2 x3 x4 x5 H locs ls hW hl hf
      rw [lX5_leastHurt_18_s] at hf
      refine lv_iload hx hb dX5_leastHurt_18 (lv_at hl 3 rfl) ?_
      refine lv_bipush (v := 18) hx hb dX5_leastHurt_20 (by decide) ?_
      refine lv_icmp_ge (tgt := 73) hx hb dX5_leastHurt_22 (by decide) (fun c18 => ?_) (fun c18 => ?_)
      · replace hf := ite_t hf c18
        refine lv_iload_n hx hb dX5_leastHurt_73 rfl (lv_at hl 1 rfl) ?_
        exact e_i X hr hW (someinj hf) dX5_leastHurt_74
      · replace hf := ite_f hf c18
        refine lv_iload hx hb dX5_leastHurt_25 (lv_at hl 3 rfl) ?_
        obtain ⟨r5, e4, hf⟩ := bnd_ex hf
        refine k_i X hW (k_S (As := [.int x5]) (rest := []) X hW hml hl.1 (c_X5_maskOf l g hDW  _ mm _ e4) ⟨mw_581, kw_X5_maskOf⟩ ⟨⟨rfl, rfl⟩, ko_X5_maskOf, ⟨Nat.le_of_ble_eq_true rfl, Nat.le_of_ble_eq_true rfl⟩⟩ rfl rfl (Nat.le_of_ble_eq_true rfl) dX5_leastHurt_27 ⟨Nat.le_of_ble_eq_true rfl, Nat.le_of_ble_eq_true rfl⟩) (fun H locs hW => ?_)
        refine lv_iload_n hx hb dX5_leastHurt_30 rfl (lv_at hl 0 rfl) ?_
        refine lv_iconst (v := -1) hx hb dX5_leastHurt_31 (by decide) ?_
        refine lv_ixor hx hb dX5_leastHurt_32 ?_
        refine lv_iand hx hb dX5_leastHurt_33 ?_
        obtain ⟨r8, e7, hf⟩ := bnd_ex hf
        refine k_i X hW (k_S (As := [.int (r5 &&& (x2 ^^^ (-1)))]) (rest := []) X hW hml hl.1 (c_J6_bitCount_0f7a4 l g hDW  _ mm _ e7) ⟨mw_535, kw_J6_bitCount_0f7a4⟩ ⟨⟨rfl, rfl⟩, ko_J6_bitCount_0f7a4, ⟨Nat.le_of_ble_eq_true rfl, Nat.le_of_ble_eq_true rfl⟩⟩ rfl rfl (Nat.le_of_ble_eq_true rfl) dX5_leastHurt_34 ⟨Nat.le_of_ble_eq_true rfl, Nat.le_of_ble_eq_true rfl⟩) (fun H locs hW => ?_)
        refine lv_istore (lv' := [(6, .int r8), (2, .int x2), (3, .int x3), (4, .int x4), (5, .int x5)]) hx hb dX5_leastHurt_37 hl (by decide) rfl (fun ls hl => ?_)
        refine lv_iload hx hb dX5_leastHurt_39 (lv_at hl 4 rfl) ?_
        obtain ⟨r11, e10, hf⟩ := bnd_ex hf
        refine k_i X hW (k_S (As := [.int x5]) (rest := []) X hW hml hl.1 (c_X5_maskOf l g hDW  _ mm _ e10) ⟨mw_581, kw_X5_maskOf⟩ ⟨⟨rfl, rfl⟩, ko_X5_maskOf, ⟨Nat.le_of_ble_eq_true rfl, Nat.le_of_ble_eq_true rfl⟩⟩ rfl rfl (Nat.le_of_ble_eq_true rfl) dX5_leastHurt_41 ⟨Nat.le_of_ble_eq_true rfl, Nat.le_of_ble_eq_true rfl⟩) (fun H locs hW => ?_)
        refine lv_iload_n hx hb dX5_leastHurt_44 rfl (lv_at hl 1 rfl) ?_
        refine lv_iand hx hb dX5_leastHurt_45 ?_
        obtain ⟨r14, e13, hf⟩ := bnd_ex hf
        refine k_i X hW (k_S (As := [.int (r11 &&& x2)]) (rest := []) X hW hml hl.1 (c_J6_bitCount_0f7a4 l g hDW  _ mm _ e13) ⟨mw_535, kw_J6_bitCount_0f7a4⟩ ⟨⟨rfl, rfl⟩, ko_J6_bitCount_0f7a4, ⟨Nat.le_of_ble_eq_true rfl, Nat.le_of_ble_eq_true rfl⟩⟩ rfl rfl (Nat.le_of_ble_eq_true rfl) dX5_leastHurt_46 ⟨Nat.le_of_ble_eq_true rfl, Nat.le_of_ble_eq_true rfl⟩) (fun H locs hW => ?_)
        refine lv_iconst (v := 1) hx hb dX5_leastHurt_49 (by decide) ?_
        refine lv_icmp_gt (tgt := 67) hx hb dX5_leastHurt_50 (by decide) (fun c17 => ?_) (fun c17 => ?_)
        · replace hf := ite_t hf c17
          exact P_67 _ _ _ _ _ _ _ hW (lv_sub hl [1, 2, 3, 4] rfl) hf
        · replace hf := ite_f hf c17
          refine lv_iload hx hb dX5_leastHurt_53 (lv_at hl 0 rfl) ?_
          refine lv_iload hx hb dX5_leastHurt_55 (lv_at hl 3 rfl) ?_
          refine lv_icmp_le (tgt := 67) hx hb dX5_leastHurt_57 (by decide) (fun c16 => ?_) (fun c16 => ?_)
          · replace hf := ite_t hf c16
            exact P_67 _ _ _ _ _ _ _ hW (lv_sub hl [1, 2, 3, 4] rfl) hf
          · replace hf := ite_f hf c16
            refine lv_iload hx hb dX5_leastHurt_60 (lv_at hl 4 rfl) ?_
            refine lv_istore_n (lv' := [(3, .int x5), (6, .int r8), (2, .int x2), (4, .int x4), (5, .int x5)]) hx hb dX5_leastHurt_62 rfl hl (by decide) rfl (fun ls hl => ?_)
            refine lv_iload hx hb dX5_leastHurt_63 (lv_at hl 1 rfl) ?_
            refine lv_istore (lv' := [(4, .int r8), (3, .int x5), (6, .int r8), (2, .int x2), (5, .int x5)]) hx hb dX5_leastHurt_65 hl (by decide) rfl (fun ls hl => ?_)
            exact P_67 _ _ _ _ _ _ _ hW (lv_sub hl [3, 1, 0, 4] rfl) hf
  unfold fX5_leastHurt at hf
  refine lv_aload_n hx hb dX5_leastHurt_0 rfl (lv_at hl 0 rfl) ?_
  refine gf_12_1 X hW (by decide) mw_252 dX5_leastHurt_1 ?_
  refine lv_iload_n hx hb dX5_leastHurt_4 rfl (lv_at hl 1 rfl) ?_
  obtain ⟨r2, e1, hf⟩ := bnd_ex hf
  refine k_i X hW (k_V (As := [.int x1]) (rest := []) X hW hml hl.1 (c_X2_failing l g hDW 0 (by decide) _ mm _ e1) (r_recv X hW 0 0 (by decide) (by decide) rfl rfl) ⟨mw_580, kw_X2_failing⟩ ⟨⟨rfl, rfl⟩, ko_X2_failing, ⟨Nat.le_of_ble_eq_true rfl, Nat.le_of_ble_eq_true rfl⟩⟩ rfl rfl (Nat.le_of_ble_eq_true rfl) dX5_leastHurt_5 ⟨Nat.le_of_ble_eq_true rfl, Nat.le_of_ble_eq_true rfl⟩) (fun H locs hW => ?_)
  refine lv_istore_n (lv' := [(2, .int r2), (0, .ref (ad g 12 0)), (1, .int x1)]) hx hb dX5_leastHurt_8 rfl hl (by decide) rfl (fun ls hl => ?_)
  refine lv_bipush (v := 17) hx hb dX5_leastHurt_9 (by decide) ?_
  refine lv_istore_n (lv' := [(3, .int 17), (2, .int r2), (0, .ref (ad g 12 0)), (1, .int x1)]) hx hb dX5_leastHurt_11 rfl hl (by decide) rfl (fun ls hl => ?_)
  refine lv_iconst (v := -1) hx hb dX5_leastHurt_12 (by decide) ?_
  refine lv_istore (lv' := [(4, .int (-1)), (3, .int 17), (2, .int r2), (0, .ref (ad g 12 0)), (1, .int x1)]) hx hb dX5_leastHurt_13 hl (by decide) rfl (fun ls hl => ?_)
  refine lv_iconst (v := 0) hx hb dX5_leastHurt_15 (by decide) ?_
  refine lv_istore (lv' := [(5, .int 0), (4, .int (-1)), (3, .int 17), (2, .int r2), (0, .ref (ad g 12 0)), (1, .int x1)]) hx hb dX5_leastHurt_16 hl (by decide) rfl (fun ls hl => ?_)
  exact P_18 _ _ _ _ _ _ _ _ hW (lv_sub hl [3, 2, 1, 0] rfl) hf
set_option maxRecDepth 100000 in
set_option maxHeartbeats 4000000 in
theorem c_X5_litShare (l : Launch) (g : gG) (hDW : DW g) (mm : gM) (r0 : UInt64) (hf : fX5_litShare mm = some r0) : Met l yX5_litShare (Cond.code yX5_litShare cX5_litShare 2 (some .double) :: ALLW) rm_X5_litShare (CPre g mm [.ref (ad g 12 0)]) (CD g mm r0) 0 0 (gA g) := by
  refine Met.ofW (cc := cX5_litShare) (maxL := 2) (ret := (some .double)) (by decide) rfl ?_
  intro p e s m args below meth c s₁ B hml hv
  obtain ⟨ha, hFx, hP0, hlo⟩ := hv
  have X : Cx g p s m args c meth RX5 cX5_litShare := Cx_of hDW hFx hlo B
  have hx := X.1
  have hb := X.2.1
  have hr := B.returns
  have hlocks := X.2.2.2.2.2.2.2
  have hW : Wd g mm s s.heap [] := ⟨hP0, va_S.rf⟩
  rw [ha, lg_entry_eq]
  have hl := lv_entry ([.ref (ad g 12 0)] : List Value) (n := 2) (Nat.le_of_ble_eq_true rfl)
  generalize (lg_sl ([.ref (ad g 12 0)] : List Value) ++ List.replicate (2 - (lg_sl ([.ref (ad g 12 0)] : List Value)).length) Slot.unset).toArray = ls at hl ⊢
  have hl : lv_has ls 2 [(0, .ref (ad g 12 0))] := hl
  rw [← ha]
  show W p l e rm_X5_litShare s m args below meth c s.heap [] 0 0 (MQ below (CD g mm r0) args s 0 0 (gA g)) (F0 m 0 ls [])
  have P_27 : ∀ (s0 : UInt64) (H : Heap) (locs : List Loc) (ls : Array Slot), Wd g mm s H locs → lv_has ls 2 [] → jX5_litShare_27 mm s0 = some r0 → W p l e rm_X5_litShare s m args below meth c H locs 0 0 (MQ below (CD g mm r0) args s 0 0 (gA g)) (F0 m 27 ls [.double s0]) := by
    intro s0 H locs ls hW hl hf
    unfold jX5_litShare_27 at hf
    exact e_d X hr hW (someinj hf) dX5_litShare_27
  unfold fX5_litShare at hf
  refine lv_aload_n hx hb dX5_litShare_0 rfl (lv_at hl 0 rfl) ?_
  refine gf_12_1 X hW (by decide) mw_252 dX5_litShare_1 ?_
  obtain ⟨r2, e1, hf⟩ := bnd_ex hf
  refine k_i X hW (k_V (As := []) (rest := []) X hW hml hl.1 (c_X2_roundTicks l g hDW 0 (by decide)  mm _ e1) (r_recv X hW 0 0 (by decide) (by decide) rfl rfl) ⟨mw_496, kw_X2_roundTicks⟩ ⟨⟨rfl, rfl⟩, ko_X2_roundTicks, ⟨Nat.le_of_ble_eq_true rfl, Nat.le_of_ble_eq_true rfl⟩⟩ rfl rfl (Nat.le_of_ble_eq_true rfl) dX5_litShare_4 ⟨Nat.le_of_ble_eq_true rfl, Nat.le_of_ble_eq_true rfl⟩) (fun H locs hW => ?_)
  refine lv_istore_n (lv' := [(1, .int r2), (0, .ref (ad g 12 0))]) hx hb dX5_litShare_7 rfl hl (by decide) rfl (fun ls hl => ?_)
  refine lv_iload_n hx hb dX5_litShare_8 rfl (lv_at hl 0 rfl) ?_
  refine lv_if_le (tgt := 26) hx hb dX5_litShare_9 (by decide) (fun c8 => ?_) (fun c8 => ?_)
  · replace hf := ite_t hf c8
    refine lv_dconst0 hx hb dX5_litShare_26 ?_
    exact P_27 _ _ _ _ hW (lv_sub hl [] rfl) hf
  · replace hf := ite_f hf c8
    refine lv_aload_n hx hb dX5_litShare_12 rfl (lv_at hl 1 rfl) ?_
    refine gf_12_1 X hW (by decide) mw_252 dX5_litShare_13 ?_
    obtain ⟨r5, e4, hf⟩ := bnd_ex hf
    refine k_i X hW (k_V (As := []) (rest := []) X hW hml hl.1 (c_X2_litTicks l g hDW 0 (by decide)  mm _ e4) (r_recv X hW 0 0 (by decide) (by decide) rfl rfl) ⟨mw_497, kw_X2_litTicks⟩ ⟨⟨rfl, rfl⟩, ko_X2_litTicks, ⟨Nat.le_of_ble_eq_true rfl, Nat.le_of_ble_eq_true rfl⟩⟩ rfl rfl (Nat.le_of_ble_eq_true rfl) dX5_litShare_16 ⟨Nat.le_of_ble_eq_true rfl, Nat.le_of_ble_eq_true rfl⟩) (fun H locs hW => ?_)
    refine lv_i2d hx hb dX5_litShare_19 ?_
    refine lv_iload_n hx hb dX5_litShare_20 rfl (lv_at hl 0 rfl) ?_
    refine lv_i2d hx hb dX5_litShare_21 ?_
    obtain ⟨b7, hf⟩ := chk_ex hf
    refine lv_ddiv hx hb dX5_litShare_22 b7 ?_
    refine lv_goto (tgt := 27) hx hb dX5_litShare_23 (by decide) ?_
    exact P_27 _ _ _ _ hW (lv_sub hl [] rfl) hf
set_option maxRecDepth 100000 in
set_option maxHeartbeats 4000000 in
theorem c_X5_meanBrightness (l : Launch) (g : gG) (hDW : DW g) (mm : gM) (r0 : UInt32) (mZ : gM) (hf : fX5_meanBrightness mm = some (r0, mZ)) : Met l yX5_meanBrightness (Cond.code yX5_meanBrightness cX5_meanBrightness 4 (some .float) :: ALLW) rm_X5_meanBrightness (CPre g mm [.ref (ad g 12 0)]) (CF g mZ r0) 0 0 (gA g) := by
  refine Met.ofW (cc := cX5_meanBrightness) (maxL := 4) (ret := (some .float)) (by decide) rfl ?_
  intro p e s m args below meth c s₁ B hml hv
  obtain ⟨ha, hFx, hP0, hlo⟩ := hv
  have X : Cx g p s m args c meth RX5 cX5_meanBrightness := Cx_of hDW hFx hlo B
  have hx := X.1
  have hb := X.2.1
  have hr := B.returns
  have hlocks := X.2.2.2.2.2.2.2
  have hW : Wd g mm s s.heap [] := ⟨hP0, va_S.rf⟩
  rw [ha, lg_entry_eq]
  have hl := lv_entry ([.ref (ad g 12 0)] : List Value) (n := 4) (Nat.le_of_ble_eq_true rfl)
  generalize (lg_sl ([.ref (ad g 12 0)] : List Value) ++ List.replicate (4 - (lg_sl ([.ref (ad g 12 0)] : List Value)).length) Slot.unset).toArray = ls at hl ⊢
  have hl : lv_has ls 4 [(0, .ref (ad g 12 0))] := hl
  rw [← ha]
  show W p l e rm_X5_meanBrightness s m args below meth c s.heap [] 0 0 (MQ below (CF g mZ r0) args s 0 0 (gA g)) (F0 m 0 ls [])
  have P_64 : ∀ (s0 : UInt32) (mm : gM) (H : Heap) (locs : List Loc) (ls : Array Slot), Wd g mm s H locs → lv_has ls 4 [] → jX5_meanBrightness_64 s0 mm = some (r0, mZ) → W p l e rm_X5_meanBrightness s m args below meth c H locs 0 0 (MQ below (CF g mZ r0) args s 0 0 (gA g)) (F0 m 64 ls [.float s0]) := by
    intro s0 mm H locs ls hW hl hf
    unfold jX5_meanBrightness_64 at hf
    obtain ⟨hf, hm⟩ := prinj hf
    replace hW := hW.same hm.symm
    exact e_f X hr hW (hf) dX5_meanBrightness_64
  have P_51 : ∀ (x1 : Int32) (x2 : Int32) (mm : gM) (H : Heap) (locs : List Loc) (ls : Array Slot), Wd g mm s H locs → lv_has ls 4 [(1, .int x1), (2, .int x2)] → jX5_meanBrightness_51 x1 x2 mm = some (r0, mZ) → W p l e rm_X5_meanBrightness s m args below meth c H locs 0 0 (MQ below (CF g mZ r0) args s 0 0 (gA g)) (F0 m 51 ls []) := by
    intro x1 x2 mm H locs ls hW hl hf
    unfold jX5_meanBrightness_51 at hf
    refine lv_iload_n hx hb dX5_meanBrightness_51 rfl (lv_at hl 1 rfl) ?_
    refine lv_if_le (tgt := 63) hx hb dX5_meanBrightness_52 (by decide) (fun c13 => ?_) (fun c13 => ?_)
    · replace hf := ite_t hf c13
      refine lv_fconst0 hx hb dX5_meanBrightness_63 ?_
      exact P_64 _ _ _ _ _ hW (lv_sub hl [] rfl) hf
    · replace hf := ite_f hf c13
      refine lv_iload_n hx hb dX5_meanBrightness_55 rfl (lv_at hl 0 rfl) ?_
      refine lv_i2f hx hb dX5_meanBrightness_56 ?_
      refine lv_iload_n hx hb dX5_meanBrightness_57 rfl (lv_at hl 1 rfl) ?_
      refine lv_i2f hx hb dX5_meanBrightness_58 ?_
      obtain ⟨b12, hf⟩ := chk_ex hf
      refine lv_fdiv hx hb dX5_meanBrightness_59 b12 ?_
      refine lv_goto (tgt := 64) hx hb dX5_meanBrightness_60 (by decide) ?_
      exact P_64 _ _ _ _ _ hW (lv_sub hl [] rfl) hf
  have P_6 : ∀ (n6 : Nat) (x1 : Int32) (x2 : Int32) (x3 : Int32) (mm : gM) (H : Heap) (locs : List Loc) (ls : Array Slot), Wd g mm s H locs → lv_has ls 4 [(0, .ref (ad g 12 0)), (1, .int x1), (2, .int x2), (3, .int x3)] → lX5_meanBrightness_6 n6 x1 x2 x3 mm = some (r0, mZ) → W p l e rm_X5_meanBrightness s m args below meth c H locs 0 0 (MQ below (CF g mZ r0) args s 0 0 (gA g)) (F0 m 6 ls []) := by
    intro n6
    induction n6 with
    | zero => intro x1 x2 x3 mm H locs ls hW hl hf; exact (no_some hf).elim
    | succ n6 ih_6 =>
      have P_45 : ∀ (x1 : Int32) (x2 : Int32) (x3 : Int32) (mm : gM) (H : Heap) (locs : List Loc) (ls : Array Slot), Wd g mm s H locs → lv_has ls 4 [(0, .ref (ad g 12 0)), (1, .int x1), (2, .int x2), (3, .int x3)] → jX5_meanBrightness_45 (lX5_meanBrightness_6 n6) x1 x2 x3 mm = some (r0, mZ) → W p l e rm_X5_meanBrightness s m args below meth c H locs 0 0 (MQ below (CF g mZ r0) args s 0 0 (gA g)) (F0 m 45 ls []) := by
        intro x1 x2 x3 mm H locs ls hW hl hf
        unfold jX5_meanBrightness_45 at hf
        refine lv_iinc (v := x3 + 1) (lv' := [(3, .int (x3 + 1)), (0, .ref (ad g 12 0)), (1, .int x1), (2, .int x2)]) hx hb dX5_meanBrightness_45 hl (k := 3) rfl rfl (by decide) rfl (fun ls hl => ?_)
        refine lv_goto (tgt := 6) hx hb dX5_meanBrightness_48 (by decide) ?_
        exact ih_6 _ _ _ _ _ _ _ hW (lv_sub hl [1, 2, 3, 0] rfl) hf
      intro x1 x2 x3 mm H locs ls hW hl hf
      rw [lX5_meanBrightness_6_s] at hf
      refine lv_iload_n hx hb dX5_meanBrightness_6 rfl (lv_at hl 3 rfl) ?_
      refine lv_bipush (v := 6) hx hb dX5_meanBrightness_7 (by decide) ?_
      refine lv_icmp_ge (tgt := 51) hx hb dX5_meanBrightness_9 (by decide) (fun c11 => ?_) (fun c11 => ?_)
      · replace hf := ite_t hf c11
        exact P_51 _ _ _ _ _ _ hW (lv_sub hl [1, 2] rfl) hf
      · replace hf := ite_f hf c11
        refine lv_aload_n hx hb dX5_meanBrightness_12 rfl (lv_at hl 0 rfl) ?_
        refine gf_12_1 X hW (by decide) mw_252 dX5_meanBrightness_13 ?_
        refine lv_iload_n hx hb dX5_meanBrightness_16 rfl (lv_at hl 3 rfl) ?_
        obtain ⟨r2, e1, hf⟩ := bnd_ex hf
        refine k_i X hW (k_V (As := [.int x3]) (rest := []) X hW hml hl.1 (c_X2_works l g hDW 0 (by decide) _ mm _ e1) (r_recv X hW 0 0 (by decide) (by decide) rfl rfl) ⟨mw_505, kw_X2_works⟩ ⟨⟨rfl, rfl⟩, ko_X2_works, ⟨Nat.le_of_ble_eq_true rfl, Nat.le_of_ble_eq_true rfl⟩⟩ rfl rfl (Nat.le_of_ble_eq_true rfl) dX5_meanBrightness_17 ⟨Nat.le_of_ble_eq_true rfl, Nat.le_of_ble_eq_true rfl⟩) (fun H locs hW => ?_)
        refine lv_if_eq (tgt := 45) hx hb dX5_meanBrightness_20 (by decide) (fun c10 => ?_) (fun c10 => ?_)
        · replace hf := ite_t hf c10
          exact P_45 _ _ _ _ _ _ _ hW (lv_sub hl [0, 1, 2, 3] rfl) hf
        · replace hf := ite_f hf c10
          refine lv_aload_n hx hb dX5_meanBrightness_23 rfl (lv_at hl 0 rfl) ?_
          refine gf_12_0 X hW (by decide) mw_251 dX5_meanBrightness_24 ?_
          refine lv_iload_n hx hb dX5_meanBrightness_27 rfl (lv_at hl 3 rfl) ?_
          obtain ⟨m6, e4, hf⟩ := bnd_ex hf
          refine k_v X hW (k_V (As := [.int x3]) (rest := []) X hW hml hl.1 (c_X1_look l g hDW 0 (by decide) _ mm _ e4) (r_recv X hW 6 0 (by decide) (by decide) rfl rfl) ⟨mw_389, kw_X1_look⟩ ⟨⟨rfl, rfl⟩, ko_X1_look, ⟨Nat.le_of_ble_eq_true rfl, Nat.le_of_ble_eq_true rfl⟩⟩ rfl rfl (Nat.le_of_ble_eq_true rfl) dX5_meanBrightness_28 ⟨Nat.le_of_ble_eq_true rfl, Nat.le_of_ble_eq_true rfl⟩) (fun H locs hW => ?_)
          refine lv_iload_n hx hb dX5_meanBrightness_31 rfl (lv_at hl 1 rfl) ?_
          refine lv_aload_n hx hb dX5_meanBrightness_32 rfl (lv_at hl 0 rfl) ?_
          refine gf_12_0 X hW (by decide) mw_251 dX5_meanBrightness_33 ?_
          refine lv_iload_n hx hb dX5_meanBrightness_36 rfl (lv_at hl 3 rfl) ?_
          obtain ⟨r8, e7, hf⟩ := bnd_ex hf
          refine k_i X hW (k_V (As := [.int x3]) (rest := [.int x1]) X hW hml hl.1 (c_X1_mean l g hDW 0 (by decide) _ m6 _ e7) (r_recv X hW 6 0 (by decide) (by decide) rfl rfl) ⟨mw_506, kw_X1_mean⟩ ⟨⟨rfl, rfl⟩, ko_X1_mean, ⟨Nat.le_of_ble_eq_true rfl, Nat.le_of_ble_eq_true rfl⟩⟩ rfl rfl (Nat.le_of_ble_eq_true rfl) dX5_meanBrightness_37 ⟨Nat.le_of_ble_eq_true rfl, Nat.le_of_ble_eq_true rfl⟩) (fun H locs hW => ?_)
          refine lv_iadd hx hb dX5_meanBrightness_40 ?_
          refine lv_istore_n (lv' := [(1, .int (x1 + r8)), (0, .ref (ad g 12 0)), (2, .int x2), (3, .int x3)]) hx hb dX5_meanBrightness_41 rfl hl (by decide) rfl (fun ls hl => ?_)
          refine lv_iinc (v := x2 + 1) (lv' := [(2, .int (x2 + 1)), (1, .int (x1 + r8)), (0, .ref (ad g 12 0)), (3, .int x3)]) hx hb dX5_meanBrightness_42 hl (k := 2) rfl rfl (by decide) rfl (fun ls hl => ?_)
          exact P_45 _ _ _ _ _ _ _ hW (lv_sub hl [2, 1, 0, 3] rfl) hf
  unfold fX5_meanBrightness at hf
  refine lv_iconst (v := 0) hx hb dX5_meanBrightness_0 (by decide) ?_
  refine lv_istore_n (lv' := [(1, .int 0), (0, .ref (ad g 12 0))]) hx hb dX5_meanBrightness_1 rfl hl (by decide) rfl (fun ls hl => ?_)
  refine lv_iconst (v := 0) hx hb dX5_meanBrightness_2 (by decide) ?_
  refine lv_istore_n (lv' := [(2, .int 0), (1, .int 0), (0, .ref (ad g 12 0))]) hx hb dX5_meanBrightness_3 rfl hl (by decide) rfl (fun ls hl => ?_)
  refine lv_iconst (v := 0) hx hb dX5_meanBrightness_4 (by decide) ?_
  refine lv_istore_n (lv' := [(3, .int 0), (2, .int 0), (1, .int 0), (0, .ref (ad g 12 0))]) hx hb dX5_meanBrightness_5 rfl hl (by decide) rfl (fun ls hl => ?_)
  exact P_6 _ _ _ _ _ _ _ _ hW (lv_sub hl [3, 2, 1, 0] rfl) hf
set_option maxRecDepth 100000 in
set_option maxHeartbeats 4000000 in
theorem c_X5_hashWithSlot (l : Launch) (g : gG) (hDW : DW g) (x1 : Int64) (x3 : Int32) (mm : gM) (r0 : Int64) (mZ : gM) (hf : fX5_hashWithSlot x1 x3 mm = some (r0, mZ)) : Met l yX5_hashWithSlot (Cond.code yX5_hashWithSlot cX5_hashWithSlot 8 (some .long) :: ALLW) rm_X5_hashWithSlot (CPre g mm [.ref (ad g 12 0), .long x1, .int x3]) (CL g mZ r0) 0 0 (gA g) := by
  refine Met.ofW (cc := cX5_hashWithSlot) (maxL := 8) (ret := (some .long)) (by decide) rfl ?_
  intro p e s m args below meth c s₁ B hml hv
  obtain ⟨ha, hFx, hP0, hlo⟩ := hv
  have X : Cx g p s m args c meth RX5 cX5_hashWithSlot := Cx_of hDW hFx hlo B
  have hx := X.1
  have hb := X.2.1
  have hr := B.returns
  have hlocks := X.2.2.2.2.2.2.2
  have hW : Wd g mm s s.heap [] := ⟨hP0, va_S.rf⟩
  rw [ha, lg_entry_eq]
  have hl := lv_entry ([.ref (ad g 12 0), .long x1, .int x3] : List Value) (n := 8) (Nat.le_of_ble_eq_true rfl)
  generalize (lg_sl ([.ref (ad g 12 0), .long x1, .int x3] : List Value) ++ List.replicate (8 - (lg_sl ([.ref (ad g 12 0), .long x1, .int x3] : List Value)).length) Slot.unset).toArray = ls at hl ⊢
  have hl : lv_has ls 8 [(0, .ref (ad g 12 0)), (1, .long x1), (3, .int x3)] := hl
  rw [← ha]
  show W p l e rm_X5_hashWithSlot s m args below meth c s.heap [] 0 0 (MQ below (CL g mZ r0) args s 0 0 (gA g)) (F0 m 0 ls [])
  have P_86 : ∀ (x3 : Int32) (x4 : Int64) (mm : gM) (H : Heap) (locs : List Loc) (ls : Array Slot), Wd g mm s H locs → lv_has ls 8 [(0, .ref (ad g 12 0)), (3, .int x3), (4, .long x4)] → jX5_hashWithSlot_86 x3 x4 mm = some (r0, mZ) → W p l e rm_X5_hashWithSlot s m args below meth c H locs 0 0 (MQ below (CL g mZ r0) args s 0 0 (gA g)) (F0 m 86 ls []) := by
    intro x3 x4 mm H locs ls hW hl hf
    unfold jX5_hashWithSlot_86 at hf
    refine lv_ldc2 hx hb X.2.2.1 (X.2.2.2.1 _ mw_518) dX5_hashWithSlot_86 ?_
    refine lv_lload hx hb dX5_hashWithSlot_89 (lv_at hl 2 rfl) ?_
    refine lv_lmul hx hb dX5_hashWithSlot_91 ?_
    refine lv_aload_n hx hb dX5_hashWithSlot_92 rfl (lv_at hl 0 rfl) ?_
    refine lv_iload_n hx hb dX5_hashWithSlot_93 rfl (lv_at hl 1 rfl) ?_
    obtain ⟨r7, e6, hf⟩ := bnd_ex hf
    refine k_i X hW (k_V (As := [.int x3]) (rest := [.long (31 * x4)]) X hW hml hl.1 (c_X5_alikeSigns l g hDW  _ mm _ e6) (r_recv X hW 12 0 (by decide) (by decide) rfl rfl) ⟨mw_576, kw_X5_alikeSigns⟩ ⟨⟨rfl, rfl⟩, ko_X5_alikeSigns, ⟨Nat.le_of_ble_eq_true rfl, Nat.le_of_ble_eq_true rfl⟩⟩ rfl rfl (Nat.le_of_ble_eq_true rfl) dX5_hashWithSlot_94 ⟨Nat.le_of_ble_eq_true rfl, Nat.le_of_ble_eq_true rfl⟩) (fun H locs hW => ?_)
    refine lv_i2l hx hb dX5_hashWithSlot_97 (v := r7.toInt64) rfl ?_
    refine lv_ladd hx hb dX5_hashWithSlot_98 ?_
    refine lv_lstore (lv' := [(4, .long ((31 * x4) + r7.toInt64)), (0, .ref (ad g 12 0)), (3, .int x3)]) hx hb dX5_hashWithSlot_99 hl (by decide) rfl (fun ls hl => ?_)
    refine lv_ldc2 hx hb X.2.2.1 (X.2.2.2.1 _ mw_518) dX5_hashWithSlot_101 ?_
    refine lv_lload hx hb dX5_hashWithSlot_104 (lv_at hl 0 rfl) ?_
    refine lv_lmul hx hb dX5_hashWithSlot_106 ?_
    refine lv_aload_n hx hb dX5_hashWithSlot_107 rfl (lv_at hl 1 rfl) ?_
    refine lv_iload_n hx hb dX5_hashWithSlot_108 rfl (lv_at hl 2 rfl) ?_
    obtain ⟨r10, e9, hf⟩ := bnd_ex hf
    refine k_i X hW (k_V (As := [.int x3]) (rest := [.long (31 * ((31 * x4) + r7.toInt64))]) X hW hml hl.1 (c_X5_lowestAlike l g hDW  _ mm _ e9) (r_recv X hW 12 0 (by decide) (by decide) rfl rfl) ⟨mw_582, kw_X5_lowestAlike⟩ ⟨⟨rfl, rfl⟩, ko_X5_lowestAlike, ⟨Nat.le_of_ble_eq_true rfl, Nat.le_of_ble_eq_true rfl⟩⟩ rfl rfl (Nat.le_of_ble_eq_true rfl) dX5_hashWithSlot_109 ⟨Nat.le_of_ble_eq_true rfl, Nat.le_of_ble_eq_true rfl⟩) (fun H locs hW => ?_)
    refine lv_i2l hx hb dX5_hashWithSlot_112 (v := r10.toInt64) rfl ?_
    refine lv_ladd hx hb dX5_hashWithSlot_113 ?_
    refine lv_lstore (lv' := [(4, .long ((31 * ((31 * x4) + r7.toInt64)) + r10.toInt64)), (0, .ref (ad g 12 0)), (3, .int x3)]) hx hb dX5_hashWithSlot_114 hl (by decide) rfl (fun ls hl => ?_)
    refine lv_ldc2 hx hb X.2.2.1 (X.2.2.2.1 _ mw_518) dX5_hashWithSlot_116 ?_
    refine lv_lload hx hb dX5_hashWithSlot_119 (lv_at hl 0 rfl) ?_
    refine lv_lmul hx hb dX5_hashWithSlot_121 ?_
    refine lv_aload_n hx hb dX5_hashWithSlot_122 rfl (lv_at hl 1 rfl) ?_
    refine lv_bipush (v := 20) hx hb dX5_hashWithSlot_123 (by decide) ?_
    refine lv_iload_n hx hb dX5_hashWithSlot_125 rfl (lv_at hl 2 rfl) ?_
    obtain ⟨r13, m14, e12, hf⟩ := bn2_ex hf
    refine k_i X hW (k_V (As := [.int 20, .int x3]) (rest := [.long (31 * ((31 * ((31 * x4) + r7.toInt64)) + r10.toInt64))]) X hW hml hl.1 (c_X5_timeIfBalanced l g hDW  _ _ mm _ _ e12) (r_recv X hW 12 0 (by decide) (by decide) rfl rfl) ⟨mw_586, kw_X5_timeIfBalanced⟩ ⟨⟨rfl, rfl⟩, ko_X5_timeIfBalanced, ⟨Nat.le_of_ble_eq_true rfl, Nat.le_of_ble_eq_true rfl⟩⟩ rfl rfl (Nat.le_of_ble_eq_true rfl) dX5_hashWithSlot_126 ⟨Nat.le_of_ble_eq_true rfl, Nat.le_of_ble_eq_true rfl⟩) (fun H locs hW => ?_)
    refine lv_i2l hx hb dX5_hashWithSlot_129 (v := r13.toInt64) rfl ?_
    refine lv_ladd hx hb dX5_hashWithSlot_130 ?_
    refine lv_lstore (lv' := [(4, .long ((31 * ((31 * ((31 * x4) + r7.toInt64)) + r10.toInt64)) + r13.toInt64)), (0, .ref (ad g 12 0)), (3, .int x3)]) hx hb dX5_hashWithSlot_131 hl (by decide) rfl (fun ls hl => ?_)
    refine lv_ldc2 hx hb X.2.2.1 (X.2.2.2.1 _ mw_518) dX5_hashWithSlot_133 ?_
    refine lv_lload hx hb dX5_hashWithSlot_136 (lv_at hl 0 rfl) ?_
    refine lv_lmul hx hb dX5_hashWithSlot_138 ?_
    refine lv_aload_n hx hb dX5_hashWithSlot_139 rfl (lv_at hl 1 rfl) ?_
    refine lv_iload_n hx hb dX5_hashWithSlot_140 rfl (lv_at hl 2 rfl) ?_
    obtain ⟨r16, e15, hf⟩ := bnd_ex hf
    refine k_i X hW (k_V (As := [.int x3]) (rest := [.long (31 * ((31 * ((31 * ((31 * x4) + r7.toInt64)) + r10.toInt64)) + r13.toInt64))]) X hW hml hl.1 (c_X5_leastHurt l g hDW  _ m14 _ e15) (r_recv X hW 12 0 (by decide) (by decide) rfl rfl) ⟨mw_604, kw_X5_leastHurt⟩ ⟨⟨rfl, rfl⟩, ko_X5_leastHurt, ⟨Nat.le_of_ble_eq_true rfl, Nat.le_of_ble_eq_true rfl⟩⟩ rfl rfl (Nat.le_of_ble_eq_true rfl) dX5_hashWithSlot_141 ⟨Nat.le_of_ble_eq_true rfl, Nat.le_of_ble_eq_true rfl⟩) (fun H locs hW => ?_)
    refine lv_i2l hx hb dX5_hashWithSlot_144 (v := r16.toInt64) rfl ?_
    refine lv_ladd hx hb dX5_hashWithSlot_145 ?_
    refine lv_lstore (lv' := [(4, .long ((31 * ((31 * ((31 * ((31 * x4) + r7.toInt64)) + r10.toInt64)) + r13.toInt64)) + r16.toInt64)), (0, .ref (ad g 12 0)), (3, .int x3)]) hx hb dX5_hashWithSlot_146 hl (by decide) rfl (fun ls hl => ?_)
    refine lv_lload hx hb dX5_hashWithSlot_148 (lv_at hl 0 rfl) ?_
    obtain ⟨hf, hm⟩ := prinj hf
    replace hW := hW.same hm.symm
    exact e_l X hr hW (hf) dX5_hashWithSlot_150
  have P_39 : ∀ (n39 : Nat) (x3 : Int32) (x4 : Int64) (x6 : Int32) (mm : gM) (H : Heap) (locs : List Loc) (ls : Array Slot), Wd g mm s H locs → lv_has ls 8 [(0, .ref (ad g 12 0)), (3, .int x3), (4, .long x4), (6, .int x6)] → lX5_hashWithSlot_39 n39 x3 x4 x6 mm = some (r0, mZ) → W p l e rm_X5_hashWithSlot s m args below meth c H locs 0 0 (MQ below (CL g mZ r0) args s 0 0 (gA g)) (F0 m 39 ls []) := by
    intro n39
    induction n39 with
    | zero => intro x3 x4 x6 mm H locs ls hW hl hf; exact (no_some hf).elim
    | succ n39 ih_39 =>
      have P_80 : ∀ (x3 : Int32) (x4 : Int64) (x6 : Int32) (mm : gM) (H : Heap) (locs : List Loc) (ls : Array Slot), Wd g mm s H locs → lv_has ls 8 [(0, .ref (ad g 12 0)), (3, .int x3), (4, .long x4), (6, .int x6)] → jX5_hashWithSlot_80 (lX5_hashWithSlot_39 n39) x3 x4 x6 mm = some (r0, mZ) → W p l e rm_X5_hashWithSlot s m args below meth c H locs 0 0 (MQ below (CL g mZ r0) args s 0 0 (gA g)) (F0 m 80 ls []) := by
        intro x3 x4 x6 mm H locs ls hW hl hf
        unfold jX5_hashWithSlot_80 at hf
        refine lv_iinc (v := x6 + 1) (lv' := [(6, .int (x6 + 1)), (0, .ref (ad g 12 0)), (3, .int x3), (4, .long x4)]) hx hb dX5_hashWithSlot_80 hl (k := 3) rfl rfl (by decide) rfl (fun ls hl => ?_)
        refine lv_goto (tgt := 39) hx hb dX5_hashWithSlot_83 (by decide) ?_
        exact ih_39 _ _ _ _ _ _ _ hW (lv_sub hl [1, 2, 3, 0] rfl) hf
      have P_49 : ∀ (n49 : Nat) (x3 : Int32) (x4 : Int64) (x6 : Int32) (x7 : Int32) (mm : gM) (H : Heap) (locs : List Loc) (ls : Array Slot), Wd g mm s H locs → lv_has ls 8 [(0, .ref (ad g 12 0)), (3, .int x3), (4, .long x4), (6, .int x6), (7, .int x7)] → lX5_hashWithSlot_49 (lX5_hashWithSlot_39 n39) n49 x3 x4 x6 x7 mm = some (r0, mZ) → W p l e rm_X5_hashWithSlot s m args below meth c H locs 0 0 (MQ below (CL g mZ r0) args s 0 0 (gA g)) (F0 m 49 ls []) := by
        intro n49
        induction n49 with
        | zero => intro x3 x4 x6 x7 mm H locs ls hW hl hf; exact (no_some hf).elim
        | succ n49 ih_49 =>
          intro x3 x4 x6 x7 mm H locs ls hW hl hf
          rw [lX5_hashWithSlot_49_s] at hf
          refine lv_iload hx hb dX5_hashWithSlot_49 (lv_at hl 4 rfl) ?_
          refine lv_iconst (v := 4) hx hb dX5_hashWithSlot_51 (by decide) ?_
          refine lv_icmp_ge (tgt := 80) hx hb dX5_hashWithSlot_52 (by decide) (fun c21 => ?_) (fun c21 => ?_)
          · replace hf := ite_t hf c21
            exact P_80 _ _ _ _ _ _ _ hW (lv_sub hl [0, 1, 2, 3] rfl) hf
          · replace hf := ite_f hf c21
            refine lv_ldc2 hx hb X.2.2.1 (X.2.2.2.1 _ mw_518) dX5_hashWithSlot_55 ?_
            refine lv_lload hx hb dX5_hashWithSlot_58 (lv_at hl 2 rfl) ?_
            refine lv_lmul hx hb dX5_hashWithSlot_60 ?_
            refine lv_aload_n hx hb dX5_hashWithSlot_61 rfl (lv_at hl 0 rfl) ?_
            refine lv_iload_n hx hb dX5_hashWithSlot_62 rfl (lv_at hl 1 rfl) ?_
            refine lv_iload hx hb dX5_hashWithSlot_63 (lv_at hl 3 rfl) ?_
            refine lv_iload hx hb dX5_hashWithSlot_65 (lv_at hl 4 rfl) ?_
            obtain ⟨r19, m20, e18, hf⟩ := bn2_ex hf
            refine k_i X hW (k_V (As := [.int x3, .int x6, .int x7]) (rest := [.long (31 * x4)]) X hW hml hl.1 (c_X5_segmentProperty l g hDW  _ _ _ mm _ _ e18) (r_recv X hW 12 0 (by decide) (by decide) rfl rfl) ⟨mw_572, kw_X5_segmentProperty⟩ ⟨⟨rfl, rfl⟩, ko_X5_segmentProperty, ⟨Nat.le_of_ble_eq_true rfl, Nat.le_of_ble_eq_true rfl⟩⟩ rfl rfl (Nat.le_of_ble_eq_true rfl) dX5_hashWithSlot_67 ⟨Nat.le_of_ble_eq_true rfl, Nat.le_of_ble_eq_true rfl⟩) (fun H locs hW => ?_)
            refine lv_i2l hx hb dX5_hashWithSlot_70 (v := r19.toInt64) rfl ?_
            refine lv_ladd hx hb dX5_hashWithSlot_71 ?_
            refine lv_lstore (lv' := [(4, .long ((31 * x4) + r19.toInt64)), (0, .ref (ad g 12 0)), (3, .int x3), (6, .int x6), (7, .int x7)]) hx hb dX5_hashWithSlot_72 hl (by decide) rfl (fun ls hl => ?_)
            refine lv_iinc (v := x7 + 1) (lv' := [(7, .int (x7 + 1)), (4, .long ((31 * x4) + r19.toInt64)), (0, .ref (ad g 12 0)), (3, .int x3), (6, .int x6)]) hx hb dX5_hashWithSlot_74 hl (k := 4) rfl rfl (by decide) rfl (fun ls hl => ?_)
            refine lv_goto (tgt := 49) hx hb dX5_hashWithSlot_77 (by decide) ?_
            exact ih_49 _ _ _ _ _ _ _ _ hW (lv_sub hl [2, 3, 1, 4, 0] rfl) hf
      intro x3 x4 x6 mm H locs ls hW hl hf
      rw [lX5_hashWithSlot_39_s] at hf
      refine lv_iload hx hb dX5_hashWithSlot_39 (lv_at hl 3 rfl) ?_
      refine lv_bipush (v := 8) hx hb dX5_hashWithSlot_41 (by decide) ?_
      refine lv_icmp_ge (tgt := 86) hx hb dX5_hashWithSlot_43 (by decide) (fun c5 => ?_) (fun c5 => ?_)
      · replace hf := ite_t hf c5
        exact P_86 _ _ _ _ _ _ hW (lv_sub hl [0, 1, 2] rfl) hf
      · replace hf := ite_f hf c5
        refine lv_iconst (v := 0) hx hb dX5_hashWithSlot_46 (by decide) ?_
        refine lv_istore (lv' := [(7, .int 0), (0, .ref (ad g 12 0)), (3, .int x3), (4, .long x4), (6, .int x6)]) hx hb dX5_hashWithSlot_47 hl (by decide) rfl (fun ls hl => ?_)
        exact P_49 _ _ _ _ _ _ _ _ _ hW (lv_sub hl [1, 2, 3, 4, 0] rfl) hf
  have P_36 : ∀ (x3 : Int32) (x4 : Int64) (mm : gM) (H : Heap) (locs : List Loc) (ls : Array Slot), Wd g mm s H locs → lv_has ls 8 [(0, .ref (ad g 12 0)), (3, .int x3), (4, .long x4)] → jX5_hashWithSlot_36 x3 x4 mm = some (r0, mZ) → W p l e rm_X5_hashWithSlot s m args below meth c H locs 0 0 (MQ below (CL g mZ r0) args s 0 0 (gA g)) (F0 m 36 ls []) := by
    intro x3 x4 mm H locs ls hW hl hf
    unfold jX5_hashWithSlot_36 at hf
    refine lv_iconst (v := 0) hx hb dX5_hashWithSlot_36 (by decide) ?_
    refine lv_istore (lv' := [(6, .int 0), (0, .ref (ad g 12 0)), (3, .int x3), (4, .long x4)]) hx hb dX5_hashWithSlot_37 hl (by decide) rfl (fun ls hl => ?_)
    exact P_39 _ _ _ _ _ _ _ _ hW (lv_sub hl [1, 2, 3, 0] rfl) hf
  have P_6 : ∀ (n6 : Nat) (x3 : Int32) (x4 : Int64) (x6 : Int32) (mm : gM) (H : Heap) (locs : List Loc) (ls : Array Slot), Wd g mm s H locs → lv_has ls 8 [(0, .ref (ad g 12 0)), (3, .int x3), (4, .long x4), (6, .int x6)] → lX5_hashWithSlot_6 n6 x3 x4 x6 mm = some (r0, mZ) → W p l e rm_X5_hashWithSlot s m args below meth c H locs 0 0 (MQ below (CL g mZ r0) args s 0 0 (gA g)) (F0 m 6 ls []) := by
    intro n6
    induction n6 with
    | zero => intro x3 x4 x6 mm H locs ls hW hl hf; exact (no_some hf).elim
    | succ n6 ih_6 =>
      intro x3 x4 x6 mm H locs ls hW hl hf
      rw [lX5_hashWithSlot_6_s] at hf
      refine lv_iload hx hb dX5_hashWithSlot_6 (lv_at hl 3 rfl) ?_
      refine lv_bipush (v := 10) hx hb dX5_hashWithSlot_8 (by decide) ?_
      refine lv_icmp_ge (tgt := 36) hx hb dX5_hashWithSlot_10 (by decide) (fun c4 => ?_) (fun c4 => ?_)
      · replace hf := ite_t hf c4
        exact P_36 _ _ _ _ _ _ hW (lv_sub hl [0, 1, 2] rfl) hf
      · replace hf := ite_f hf c4
        refine lv_ldc2 hx hb X.2.2.1 (X.2.2.2.1 _ mw_518) dX5_hashWithSlot_13 ?_
        refine lv_lload hx hb dX5_hashWithSlot_16 (lv_at hl 2 rfl) ?_
        refine lv_lmul hx hb dX5_hashWithSlot_18 ?_
        refine lv_aload_n hx hb dX5_hashWithSlot_19 rfl (lv_at hl 0 rfl) ?_
        refine lv_iload_n hx hb dX5_hashWithSlot_20 rfl (lv_at hl 1 rfl) ?_
        refine lv_iload hx hb dX5_hashWithSlot_21 (lv_at hl 3 rfl) ?_
        obtain ⟨r2, m3, e1, hf⟩ := bn2_ex hf
        refine k_i X hW (k_V (As := [.int x3, .int x6]) (rest := [.long (31 * x4)]) X hW hml hl.1 (c_X5_slotProperty l g hDW  _ _ mm _ _ e1) (r_recv X hW 12 0 (by decide) (by decide) rfl rfl) ⟨mw_564, kw_X5_slotProperty⟩ ⟨⟨rfl, rfl⟩, ko_X5_slotProperty, ⟨Nat.le_of_ble_eq_true rfl, Nat.le_of_ble_eq_true rfl⟩⟩ rfl rfl (Nat.le_of_ble_eq_true rfl) dX5_hashWithSlot_23 ⟨Nat.le_of_ble_eq_true rfl, Nat.le_of_ble_eq_true rfl⟩) (fun H locs hW => ?_)
        refine lv_i2l hx hb dX5_hashWithSlot_26 (v := r2.toInt64) rfl ?_
        refine lv_ladd hx hb dX5_hashWithSlot_27 ?_
        refine lv_lstore (lv' := [(4, .long ((31 * x4) + r2.toInt64)), (0, .ref (ad g 12 0)), (3, .int x3), (6, .int x6)]) hx hb dX5_hashWithSlot_28 hl (by decide) rfl (fun ls hl => ?_)
        refine lv_iinc (v := x6 + 1) (lv' := [(6, .int (x6 + 1)), (4, .long ((31 * x4) + r2.toInt64)), (0, .ref (ad g 12 0)), (3, .int x3)]) hx hb dX5_hashWithSlot_30 hl (k := 3) rfl rfl (by decide) rfl (fun ls hl => ?_)
        refine lv_goto (tgt := 6) hx hb dX5_hashWithSlot_33 (by decide) ?_
        exact ih_6 _ _ _ _ _ _ _ hW (lv_sub hl [2, 3, 1, 0] rfl) hf
  unfold fX5_hashWithSlot at hf
  refine lv_lload_n hx hb dX5_hashWithSlot_0 rfl (lv_at hl 1 rfl) ?_
  refine lv_lstore (lv' := [(4, .long x1), (0, .ref (ad g 12 0)), (1, .long x1), (3, .int x3)]) hx hb dX5_hashWithSlot_1 hl (by decide) rfl (fun ls hl => ?_)
  refine lv_iconst (v := 0) hx hb dX5_hashWithSlot_3 (by decide) ?_
  refine lv_istore (lv' := [(6, .int 0), (4, .long x1), (0, .ref (ad g 12 0)), (1, .long x1), (3, .int x3)]) hx hb dX5_hashWithSlot_4 hl (by decide) rfl (fun ls hl => ?_)
  exact P_6 _ _ _ _ _ _ _ _ hW (lv_sub hl [2, 4, 1, 0] rfl) hf
set_option maxRecDepth 100000 in
set_option maxHeartbeats 4000000 in
theorem c_X5_bitsOf (l : Launch) (g : gG) (hDW : DW g) (x0 : UInt64) (x2 : Int32) (x3 : Int32) (mm : gM) (r0 : Int64) (hf : fX5_bitsOf x0 x2 x3 = some r0) : Met l yX5_bitsOf (Cond.code yX5_bitsOf cX5_bitsOf 10 (some .long) :: ALLW) rm_X5_bitsOf (CPre g mm [.double x0, .int x2, .int x3]) (CL g mm r0) 0 0 (gA g) := by
  refine Met.ofW (cc := cX5_bitsOf) (maxL := 10) (ret := (some .long)) (by decide) rfl ?_
  intro p e s m args below meth c s₁ B hml hv
  obtain ⟨ha, hFx, hP0, hlo⟩ := hv
  have X : Cx g p s m args c meth RX5 cX5_bitsOf := Cx_of hDW hFx hlo B
  have hx := X.1
  have hb := X.2.1
  have hr := B.returns
  have hlocks := X.2.2.2.2.2.2.2
  have hW : Wd g mm s s.heap [] := ⟨hP0, va_S.rf⟩
  rw [ha, lg_entry_eq]
  have hl := lv_entry ([.double x0, .int x2, .int x3] : List Value) (n := 10) (Nat.le_of_ble_eq_true rfl)
  generalize (lg_sl ([.double x0, .int x2, .int x3] : List Value) ++ List.replicate (10 - (lg_sl ([.double x0, .int x2, .int x3] : List Value)).length) Slot.unset).toArray = ls at hl ⊢
  have hl : lv_has ls 10 [(0, .double x0), (2, .int x2), (3, .int x3)] := hl
  rw [← ha]
  show W p l e rm_X5_bitsOf s m args below meth c s.heap [] 0 0 (MQ below (CL g mm r0) args s 0 0 (gA g)) (F0 m 0 ls [])
  have P_89 : ∀ (x3 : Int32) (x4 : Int64) (x6 : UInt64) (H : Heap) (locs : List Loc) (ls : Array Slot), Wd g mm s H locs → lv_has ls 10 [(3, .int x3), (4, .long x4), (6, .double x6)] → jX5_bitsOf_89 x3 x4 x6 = some r0 → W p l e rm_X5_bitsOf s m args below meth c H locs 0 0 (MQ below (CL g mm r0) args s 0 0 (gA g)) (F0 m 89 ls []) := by
    intro x3 x4 x6 H locs ls hW hl hf
    unfold jX5_bitsOf_89 at hf
    refine lv_dload hx hb dX5_bitsOf_89 (lv_at hl 2 rfl) ?_
    refine lv_dconst1 hx hb dX5_bitsOf_91 ?_
    obtain ⟨b8, hf⟩ := chk_ex hf
    refine lv_dsub hx hb dX5_bitsOf_92 b8 ?_
    refine lv_lconst (v := 1) hx hb dX5_bitsOf_93 (by decide) ?_
    refine lv_iload_n hx hb dX5_bitsOf_94 rfl (lv_at hl 0 rfl) ?_
    refine lv_lshl hx hb dX5_bitsOf_95 (v := lsh 1 x3) rfl ?_
    refine lv_l2d hx hb dX5_bitsOf_96 ?_
    obtain ⟨b9, hf⟩ := chk_ex hf
    refine lv_dmul hx hb dX5_bitsOf_97 b9 ?_
    refine lv_d2l hx hb dX5_bitsOf_98 ?_
    refine lv_lstore (lv' := [(8, .long (FP.d2l (FP.dmul (FP.dsub x6 FP.dconst1) (FP.l2d (lsh 1 x3))))), (3, .int x3), (4, .long x4), (6, .double x6)]) hx hb dX5_bitsOf_99 hl (by decide) rfl (fun ls hl => ?_)
    refine lv_lload hx hb dX5_bitsOf_101 (lv_at hl 2 rfl) ?_
    refine lv_iload_n hx hb dX5_bitsOf_103 rfl (lv_at hl 1 rfl) ?_
    refine lv_lshl hx hb dX5_bitsOf_104 (v := lsh x4 x3) rfl ?_
    refine lv_lload hx hb dX5_bitsOf_105 (lv_at hl 0 rfl) ?_
    refine lv_ladd hx hb dX5_bitsOf_107 ?_
    exact e_l X hr hW (someinj hf) dX5_bitsOf_108
  have P_56 : ∀ (n56 : Nat) (x2 : Int32) (x3 : Int32) (x4 : Int64) (x6 : UInt64) (x8 : Int32) (H : Heap) (locs : List Loc) (ls : Array Slot), Wd g mm s H locs → lv_has ls 10 [(2, .int x2), (3, .int x3), (4, .long x4), (6, .double x6), (8, .int x8)] → lX5_bitsOf_56 n56 x2 x3 x4 x6 x8 = some r0 → W p l e rm_X5_bitsOf s m args below meth c H locs 0 0 (MQ below (CL g mm r0) args s 0 0 (gA g)) (F0 m 56 ls []) := by
    intro n56
    induction n56 with
    | zero => intro x2 x3 x4 x6 x8 H locs ls hW hl hf; exact (no_some hf).elim
    | succ n56 ih_56 =>
      intro x2 x3 x4 x6 x8 H locs ls hW hl hf
      rw [lX5_bitsOf_56_s] at hf
      refine lv_iload hx hb dX5_bitsOf_56 (lv_at hl 4 rfl) ?_
      refine lv_iload_n hx hb dX5_bitsOf_58 rfl (lv_at hl 0 rfl) ?_
      refine lv_icmp_ge (tgt := 89) hx hb dX5_bitsOf_59 (by decide) (fun c7 => ?_) (fun c7 => ?_)
      · replace hf := ite_t hf c7
        exact P_89 _ _ _ _ _ _ hW (lv_sub hl [1, 2, 3] rfl) hf
      · replace hf := ite_f hf c7
        refine lv_dload hx hb dX5_bitsOf_62 (lv_at hl 3 rfl) ?_
        refine lv_dconst1 hx hb dX5_bitsOf_64 ?_
        refine lv_dcmp hx hb dX5_bitsOf_65 ?_
        refine lv_if_ge (tgt := 89) hx hb dX5_bitsOf_66 (by decide) (fun c6 => ?_) (fun c6 => ?_)
        · replace hf := ite_t hf c6
          exact P_89 _ _ _ _ _ _ hW (lv_sub hl [1, 2, 3] rfl) hf
        · replace hf := ite_f hf c6
          refine lv_dload hx hb dX5_bitsOf_69 (lv_at hl 3 rfl) ?_
          refine lv_ldc2d hx hb X.2.2.1 (X.2.2.2.1 _ mw_627) dX5_bitsOf_71 ?_
          obtain ⟨b5, hf⟩ := chk_ex hf
          refine lv_dmul hx hb dX5_bitsOf_74 b5 ?_
          refine lv_dstore (lv' := [(6, .double (FP.dmul x6 4611686018427387904)), (2, .int x2), (3, .int x3), (4, .long x4), (8, .int x8)]) hx hb dX5_bitsOf_75 hl (by decide) rfl (fun ls hl => ?_)
          refine lv_lload hx hb dX5_bitsOf_77 (lv_at hl 3 rfl) ?_
          refine lv_lconst (v := 1) hx hb dX5_bitsOf_79 (by decide) ?_
          refine lv_lsub hx hb dX5_bitsOf_80 ?_
          refine lv_lstore (lv' := [(4, .long (x4 - 1)), (6, .double (FP.dmul x6 4611686018427387904)), (2, .int x2), (3, .int x3), (8, .int x8)]) hx hb dX5_bitsOf_81 hl (by decide) rfl (fun ls hl => ?_)
          refine lv_iinc (v := x8 + 1) (lv' := [(8, .int (x8 + 1)), (4, .long (x4 - 1)), (6, .double (FP.dmul x6 4611686018427387904)), (2, .int x2), (3, .int x3)]) hx hb dX5_bitsOf_83 hl (k := 4) rfl rfl (by decide) rfl (fun ls hl => ?_)
          refine lv_goto (tgt := 56) hx hb dX5_bitsOf_86 (by decide) ?_
          exact ih_56 _ _ _ _ _ _ _ _ hW (lv_sub hl [3, 4, 1, 2, 0] rfl) hf
  have P_53 : ∀ (x2 : Int32) (x3 : Int32) (x4 : Int64) (x6 : UInt64) (H : Heap) (locs : List Loc) (ls : Array Slot), Wd g mm s H locs → lv_has ls 10 [(2, .int x2), (3, .int x3), (4, .long x4), (6, .double x6)] → jX5_bitsOf_53 x2 x3 x4 x6 = some r0 → W p l e rm_X5_bitsOf s m args below meth c H locs 0 0 (MQ below (CL g mm r0) args s 0 0 (gA g)) (F0 m 53 ls []) := by
    intro x2 x3 x4 x6 H locs ls hW hl hf
    unfold jX5_bitsOf_53 at hf
    refine lv_iconst (v := 0) hx hb dX5_bitsOf_53 (by decide) ?_
    refine lv_istore (lv' := [(8, .int 0), (2, .int x2), (3, .int x3), (4, .long x4), (6, .double x6)]) hx hb dX5_bitsOf_54 hl (by decide) rfl (fun ls hl => ?_)
    exact P_56 _ _ _ _ _ _ _ _ _ hW (lv_sub hl [1, 2, 3, 4, 0] rfl) hf
  have P_18 : ∀ (n18 : Nat) (x2 : Int32) (x3 : Int32) (x4 : Int64) (x6 : UInt64) (x8 : Int32) (H : Heap) (locs : List Loc) (ls : Array Slot), Wd g mm s H locs → lv_has ls 10 [(2, .int x2), (3, .int x3), (4, .long x4), (6, .double x6), (8, .int x8)] → lX5_bitsOf_18 n18 x2 x3 x4 x6 x8 = some r0 → W p l e rm_X5_bitsOf s m args below meth c H locs 0 0 (MQ below (CL g mm r0) args s 0 0 (gA g)) (F0 m 18 ls []) := by
    intro n18
    induction n18 with
    | zero => intro x2 x3 x4 x6 x8 H locs ls hW hl hf; exact (no_some hf).elim
    | succ n18 ih_18 =>
      intro x2 x3 x4 x6 x8 H locs ls hW hl hf
      rw [lX5_bitsOf_18_s] at hf
      refine lv_iload hx hb dX5_bitsOf_18 (lv_at hl 4 rfl) ?_
      refine lv_iload_n hx hb dX5_bitsOf_20 rfl (lv_at hl 0 rfl) ?_
      refine lv_icmp_ge (tgt := 53) hx hb dX5_bitsOf_21 (by decide) (fun c4 => ?_) (fun c4 => ?_)
      · replace hf := ite_t hf c4
        exact P_53 _ _ _ _ _ _ _ hW (lv_sub hl [0, 1, 2, 3] rfl) hf
      · replace hf := ite_f hf c4
        refine lv_dload hx hb dX5_bitsOf_24 (lv_at hl 3 rfl) ?_
        refine lv_ldc2d hx hb X.2.2.1 (X.2.2.2.1 _ mw_627) dX5_bitsOf_26 ?_
        refine lv_dcmp hx hb dX5_bitsOf_29 ?_
        refine lv_if_lt (tgt := 53) hx hb dX5_bitsOf_30 (by decide) (fun c3 => ?_) (fun c3 => ?_)
        · replace hf := ite_t hf c3
          exact P_53 _ _ _ _ _ _ _ hW (lv_sub hl [0, 1, 2, 3] rfl) hf
        · replace hf := ite_f hf c3
          refine lv_dload hx hb dX5_bitsOf_33 (lv_at hl 3 rfl) ?_
          refine lv_ldc2d hx hb X.2.2.1 (X.2.2.2.1 _ mw_627) dX5_bitsOf_35 ?_
          obtain ⟨b2, hf⟩ := chk_ex hf
          refine lv_ddiv hx hb dX5_bitsOf_38 b2 ?_
          refine lv_dstore (lv' := [(6, .double (FP.ddiv x6 4611686018427387904)), (2, .int x2), (3, .int x3), (4, .long x4), (8, .int x8)]) hx hb dX5_bitsOf_39 hl (by decide) rfl (fun ls hl => ?_)
          refine lv_lload hx hb dX5_bitsOf_41 (lv_at hl 3 rfl) ?_
          refine lv_lconst (v := 1) hx hb dX5_bitsOf_43 (by decide) ?_
          refine lv_ladd hx hb dX5_bitsOf_44 ?_
          refine lv_lstore (lv' := [(4, .long (x4 + 1)), (6, .double (FP.ddiv x6 4611686018427387904)), (2, .int x2), (3, .int x3), (8, .int x8)]) hx hb dX5_bitsOf_45 hl (by decide) rfl (fun ls hl => ?_)
          refine lv_iinc (v := x8 + 1) (lv' := [(8, .int (x8 + 1)), (4, .long (x4 + 1)), (6, .double (FP.ddiv x6 4611686018427387904)), (2, .int x2), (3, .int x3)]) hx hb dX5_bitsOf_47 hl (k := 4) rfl rfl (by decide) rfl (fun ls hl => ?_)
          refine lv_goto (tgt := 18) hx hb dX5_bitsOf_50 (by decide) ?_
          exact ih_18 _ _ _ _ _ _ _ _ hW (lv_sub hl [3, 4, 1, 2, 0] rfl) hf
  unfold fX5_bitsOf at hf
  refine lv_dload_n hx hb dX5_bitsOf_0 rfl (lv_at hl 0 rfl) ?_
  refine lv_dconst0 hx hb dX5_bitsOf_1 ?_
  refine lv_dcmp hx hb dX5_bitsOf_2 ?_
  refine lv_if_gt (tgt := 8) hx hb dX5_bitsOf_3 (by decide) (fun c1 => ?_) (fun c1 => ?_)
  · replace hf := ite_t hf c1
    refine lv_iload_n hx hb dX5_bitsOf_8 rfl (lv_at hl 1 rfl) ?_
    refine lv_i2l hx hb dX5_bitsOf_9 (v := x2.toInt64) rfl ?_
    refine lv_lstore (lv' := [(4, .long x2.toInt64), (0, .double x0), (2, .int x2), (3, .int x3)]) hx hb dX5_bitsOf_10 hl (by decide) rfl (fun ls hl => ?_)
    refine lv_dload_n hx hb dX5_bitsOf_12 rfl (lv_at hl 1 rfl) ?_
    refine lv_dstore (lv' := [(6, .double x0), (4, .long x2.toInt64), (0, .double x0), (2, .int x2), (3, .int x3)]) hx hb dX5_bitsOf_13 hl (by decide) rfl (fun ls hl => ?_)
    refine lv_iconst (v := 0) hx hb dX5_bitsOf_15 (by decide) ?_
    refine lv_istore (lv' := [(8, .int 0), (6, .double x0), (4, .long x2.toInt64), (0, .double x0), (2, .int x2), (3, .int x3)]) hx hb dX5_bitsOf_16 hl (by decide) rfl (fun ls hl => ?_)
    exact P_18 _ _ _ _ _ _ _ _ _ hW (lv_sub hl [4, 5, 2, 1, 0] rfl) hf
  · replace hf := ite_f hf c1
    refine lv_lconst (v := 0) hx hb dX5_bitsOf_6 (by decide) ?_
    exact e_l X hr hW (someinj hf) dX5_bitsOf_7
set_option maxRecDepth 100000 in
set_option maxHeartbeats 4000000 in
theorem c_X5_digest (l : Launch) (g : gG) (hDW : DW g) (mm : gM) (r0 : Int64) (mZ : gM) (hf : fX5_digest mm = some (r0, mZ)) : Met l yX5_digest (Cond.code yX5_digest cX5_digest 4 (some .long) :: ALLW) rm_X5_digest (CPre g mm [.ref (ad g 12 0)]) (CL g mZ r0) 0 0 (gA g) := by
  refine Met.ofW (cc := cX5_digest) (maxL := 4) (ret := (some .long)) (by decide) rfl ?_
  intro p e s m args below meth c s₁ B hml hv
  obtain ⟨ha, hFx, hP0, hlo⟩ := hv
  have X : Cx g p s m args c meth RX5 cX5_digest := Cx_of hDW hFx hlo B
  have hx := X.1
  have hb := X.2.1
  have hr := B.returns
  have hlocks := X.2.2.2.2.2.2.2
  have hW : Wd g mm s s.heap [] := ⟨hP0, va_S.rf⟩
  rw [ha, lg_entry_eq]
  have hl := lv_entry ([.ref (ad g 12 0)] : List Value) (n := 4) (Nat.le_of_ble_eq_true rfl)
  generalize (lg_sl ([.ref (ad g 12 0)] : List Value) ++ List.replicate (4 - (lg_sl ([.ref (ad g 12 0)] : List Value)).length) Slot.unset).toArray = ls at hl ⊢
  have hl : lv_has ls 4 [(0, .ref (ad g 12 0))] := hl
  rw [← ha]
  show W p l e rm_X5_digest s m args below meth c s.heap [] 0 0 (MQ below (CL g mZ r0) args s 0 0 (gA g)) (F0 m 0 ls [])
  have P_226 : ∀ (x1 : Int64) (mm : gM) (H : Heap) (locs : List Loc) (ls : Array Slot), Wd g mm s H locs → lv_has ls 4 [(1, .long x1)] → jX5_digest_226 x1 mm = some (r0, mZ) → W p l e rm_X5_digest s m args below meth c H locs 0 0 (MQ below (CL g mZ r0) args s 0 0 (gA g)) (F0 m 226 ls []) := by
    intro x1 mm H locs ls hW hl hf
    unfold jX5_digest_226 at hf
    refine lv_lload_n hx hb dX5_digest_226 rfl (lv_at hl 0 rfl) ?_
    obtain ⟨hf, hm⟩ := prinj hf
    replace hW := hW.same hm.symm
    exact e_l X hr hW (hf) dX5_digest_227
  have P_186 : ∀ (n186 : Nat) (x1 : Int64) (x3 : Int32) (mm : gM) (H : Heap) (locs : List Loc) (ls : Array Slot), Wd g mm s H locs → lv_has ls 4 [(0, .ref (ad g 12 0)), (1, .long x1), (3, .int x3)] → lX5_digest_186 n186 x1 x3 mm = some (r0, mZ) → W p l e rm_X5_digest s m args below meth c H locs 0 0 (MQ below (CL g mZ r0) args s 0 0 (gA g)) (F0 m 186 ls []) := by
    intro n186
    induction n186 with
    | zero => intro x1 x3 mm H locs ls hW hl hf; exact (no_some hf).elim
    | succ n186 ih_186 =>
      intro x1 x3 mm H locs ls hW hl hf
      rw [lX5_digest_186_s] at hf
      refine lv_iload_n hx hb dX5_digest_186 rfl (lv_at hl 2 rfl) ?_
      refine lv_bipush (v := 12) hx hb dX5_digest_187 (by decide) ?_
      refine lv_icmp_ge (tgt := 226) hx hb dX5_digest_189 (by decide) (fun c32 => ?_) (fun c32 => ?_)
      · replace hf := ite_t hf c32
        exact P_226 _ _ _ _ _ hW (lv_sub hl [1] rfl) hf
      · replace hf := ite_f hf c32
        refine lv_iload_n hx hb dX5_digest_192 rfl (lv_at hl 2 rfl) ?_
        refine lv_aload_n hx hb dX5_digest_193 rfl (lv_at hl 0 rfl) ?_
        refine gf_12_5 X hW (by decide) mw_256 dX5_digest_194 ?_
        refine gf_16_1 X hW (by decide) mw_241 dX5_digest_197 ?_
        refine lv_icmp_ge (tgt := 226) hx hb dX5_digest_200 (by decide) (fun c31 => ?_) (fun c31 => ?_)
        · replace hf := ite_t hf c31
          exact P_226 _ _ _ _ _ hW (lv_sub hl [1] rfl) hf
        · replace hf := ite_f hf c31
          refine lv_ldc2 hx hb X.2.2.1 (X.2.2.2.1 _ mw_518) dX5_digest_203 ?_
          refine lv_lload_n hx hb dX5_digest_206 rfl (lv_at hl 1 rfl) ?_
          refine lv_lmul hx hb dX5_digest_207 ?_
          refine lv_aload_n hx hb dX5_digest_208 rfl (lv_at hl 0 rfl) ?_
          refine gf_12_5 X hW (by decide) mw_256 dX5_digest_209 ?_
          refine gf_16_0 X hW (by decide) mw_239 dX5_digest_212 ?_
          refine lv_iload_n hx hb dX5_digest_215 rfl (lv_at hl 2 rfl) ?_
          obtain ⟨b30, hf⟩ := chk_ex hf
          refine r_cald X hW 17 0 (by decide) (by decide) rfl b30 dX5_digest_216 ?_
          refine lv_i2l hx hb dX5_digest_217 (v := (gi mm 17 0 x3.toNatClampNeg).toInt64) rfl ?_
          refine lv_ladd hx hb dX5_digest_218 ?_
          refine lv_lstore_n (lv' := [(1, .long ((31 * x1) + ((gi mm 17 0 x3.toNatClampNeg).toInt64))), (0, .ref (ad g 12 0)), (3, .int x3)]) hx hb dX5_digest_219 rfl hl (by decide) rfl (fun ls hl => ?_)
          refine lv_iinc (v := x3 + 1) (lv' := [(3, .int (x3 + 1)), (1, .long ((31 * x1) + ((gi mm 17 0 x3.toNatClampNeg).toInt64))), (0, .ref (ad g 12 0))]) hx hb dX5_digest_220 hl (k := 2) rfl rfl (by decide) rfl (fun ls hl => ?_)
          refine lv_goto (tgt := 186) hx hb dX5_digest_223 (by decide) ?_
          exact ih_186 _ _ _ _ _ _ hW (lv_sub hl [2, 1, 0] rfl) hf
  have P_169 : ∀ (x1 : Int64) (mm : gM) (H : Heap) (locs : List Loc) (ls : Array Slot), Wd g mm s H locs → lv_has ls 4 [(0, .ref (ad g 12 0)), (1, .long x1)] → jX5_digest_169 x1 mm = some (r0, mZ) → W p l e rm_X5_digest s m args below meth c H locs 0 0 (MQ below (CL g mZ r0) args s 0 0 (gA g)) (F0 m 169 ls []) := by
    intro x1 mm H locs ls hW hl hf
    unfold jX5_digest_169 at hf
    refine lv_ldc2 hx hb X.2.2.1 (X.2.2.2.1 _ mw_518) dX5_digest_169 ?_
    refine lv_lload_n hx hb dX5_digest_172 rfl (lv_at hl 1 rfl) ?_
    refine lv_lmul hx hb dX5_digest_173 ?_
    refine lv_aload_n hx hb dX5_digest_174 rfl (lv_at hl 0 rfl) ?_
    refine gf_12_5 X hW (by decide) mw_256 dX5_digest_175 ?_
    refine gf_16_1 X hW (by decide) mw_241 dX5_digest_178 ?_
    refine lv_i2l hx hb dX5_digest_181 (v := (gi mm 16 0 1).toInt64) rfl ?_
    refine lv_ladd hx hb dX5_digest_182 ?_
    refine lv_lstore_n (lv' := [(1, .long ((31 * x1) + ((gi mm 16 0 1).toInt64))), (0, .ref (ad g 12 0))]) hx hb dX5_digest_183 rfl hl (by decide) rfl (fun ls hl => ?_)
    refine lv_iconst (v := 0) hx hb dX5_digest_184 (by decide) ?_
    refine lv_istore_n (lv' := [(3, .int 0), (1, .long ((31 * x1) + ((gi mm 16 0 1).toInt64))), (0, .ref (ad g 12 0))]) hx hb dX5_digest_185 rfl hl (by decide) rfl (fun ls hl => ?_)
    exact P_186 _ _ _ _ _ _ _ hW (lv_sub hl [2, 1, 0] rfl) hf
  have P_136 : ∀ (n136 : Nat) (x1 : Int64) (x3 : Int32) (mm : gM) (H : Heap) (locs : List Loc) (ls : Array Slot), Wd g mm s H locs → lv_has ls 4 [(0, .ref (ad g 12 0)), (1, .long x1), (3, .int x3)] → lX5_digest_136 n136 x1 x3 mm = some (r0, mZ) → W p l e rm_X5_digest s m args below meth c H locs 0 0 (MQ below (CL g mZ r0) args s 0 0 (gA g)) (F0 m 136 ls []) := by
    intro n136
    induction n136 with
    | zero => intro x1 x3 mm H locs ls hW hl hf; exact (no_some hf).elim
    | succ n136 ih_136 =>
      have P_160 : ∀ (x3 : Int32) (s0 : Int64) (s1 : Int32) (mm : gM) (H : Heap) (locs : List Loc) (ls : Array Slot), Wd g mm s H locs → lv_has ls 4 [(0, .ref (ad g 12 0)), (3, .int x3)] → jX5_digest_160 (lX5_digest_136 n136) x3 s0 s1 mm = some (r0, mZ) → W p l e rm_X5_digest s m args below meth c H locs 0 0 (MQ below (CL g mZ r0) args s 0 0 (gA g)) (F0 m 160 ls [.int s1, .long s0]) := by
        intro x3 s0 s1 mm H locs ls hW hl hf
        unfold jX5_digest_160 at hf
        refine lv_i2l hx hb dX5_digest_160 (v := s1.toInt64) rfl ?_
        refine lv_ladd hx hb dX5_digest_161 ?_
        refine lv_lstore_n (lv' := [(1, .long (s0 + s1.toInt64)), (0, .ref (ad g 12 0)), (3, .int x3)]) hx hb dX5_digest_162 rfl hl (by decide) rfl (fun ls hl => ?_)
        refine lv_iinc (v := x3 + 1) (lv' := [(3, .int (x3 + 1)), (1, .long (s0 + s1.toInt64)), (0, .ref (ad g 12 0))]) hx hb dX5_digest_163 hl (k := 2) rfl rfl (by decide) rfl (fun ls hl => ?_)
        refine lv_goto (tgt := 136) hx hb dX5_digest_166 (by decide) ?_
        exact ih_136 _ _ _ _ _ _ hW (lv_sub hl [2, 1, 0] rfl) hf
      intro x1 x3 mm H locs ls hW hl hf
      rw [lX5_digest_136_s] at hf
      refine lv_iload_n hx hb dX5_digest_136 rfl (lv_at hl 2 rfl) ?_
      refine lv_iconst (v := 2) hx hb dX5_digest_137 (by decide) ?_
      refine lv_icmp_ge (tgt := 169) hx hb dX5_digest_138 (by decide) (fun c29 => ?_) (fun c29 => ?_)
      · replace hf := ite_t hf c29
        exact P_169 _ _ _ _ _ hW (lv_sub hl [0, 1] rfl) hf
      · replace hf := ite_f hf c29
        refine lv_ldc2 hx hb X.2.2.1 (X.2.2.2.1 _ mw_518) dX5_digest_141 ?_
        refine lv_lload_n hx hb dX5_digest_144 rfl (lv_at hl 1 rfl) ?_
        refine lv_lmul hx hb dX5_digest_145 ?_
        refine lv_aload_n hx hb dX5_digest_146 rfl (lv_at hl 0 rfl) ?_
        refine gf_12_7 X hW (by decide) mw_258 dX5_digest_147 ?_
        refine lv_iload_n hx hb dX5_digest_150 rfl (lv_at hl 2 rfl) ?_
        obtain ⟨b27, hf⟩ := chk_ex hf
        refine r_zald X hW 19 0 (by decide) (by decide) rfl b27 dX5_digest_151 ?_
        refine lv_if_eq (tgt := 159) hx hb dX5_digest_152 (by decide) (fun c28 => ?_) (fun c28 => ?_)
        · replace hf := ite_t hf c28
          refine lv_iconst (v := 0) hx hb dX5_digest_159 (by decide) ?_
          exact P_160 _ _ _ _ _ _ _ hW (lv_sub hl [0, 2] rfl) hf
        · replace hf := ite_f hf c28
          refine lv_iconst (v := 1) hx hb dX5_digest_155 (by decide) ?_
          refine lv_goto (tgt := 160) hx hb dX5_digest_156 (by decide) ?_
          exact P_160 _ _ _ _ _ _ _ hW (lv_sub hl [0, 2] rfl) hf
  have P_82 : ∀ (x1 : Int64) (mm : gM) (H : Heap) (locs : List Loc) (ls : Array Slot), Wd g mm s H locs → lv_has ls 4 [(0, .ref (ad g 12 0)), (1, .long x1)] → jX5_digest_82 x1 mm = some (r0, mZ) → W p l e rm_X5_digest s m args below meth c H locs 0 0 (MQ below (CL g mZ r0) args s 0 0 (gA g)) (F0 m 82 ls []) := by
    intro x1 mm H locs ls hW hl hf
    unfold jX5_digest_82 at hf
    refine lv_ldc2 hx hb X.2.2.1 (X.2.2.2.1 _ mw_518) dX5_digest_82 ?_
    refine lv_lload_n hx hb dX5_digest_85 rfl (lv_at hl 1 rfl) ?_
    refine lv_lmul hx hb dX5_digest_86 ?_
    refine lv_aload_n hx hb dX5_digest_87 rfl (lv_at hl 0 rfl) ?_
    refine lv_iconst (v := 0) hx hb dX5_digest_88 (by decide) ?_
    refine lv_iconst (v := 5) hx hb dX5_digest_89 (by decide) ?_
    obtain ⟨r12, m13, e11, hf⟩ := bn2_ex hf
    refine k_i X hW (k_V (As := [.int 0, .int 5]) (rest := [.long (31 * x1)]) X hW hml hl.1 (c_X5_meanIfTimed l g hDW  _ _ mm _ _ e11) (r_recv X hW 12 0 (by decide) (by decide) rfl rfl) ⟨mw_608, kw_X5_meanIfTimed⟩ ⟨⟨rfl, rfl⟩, ko_X5_meanIfTimed, ⟨Nat.le_of_ble_eq_true rfl, Nat.le_of_ble_eq_true rfl⟩⟩ rfl rfl (Nat.le_of_ble_eq_true rfl) dX5_digest_90 ⟨Nat.le_of_ble_eq_true rfl, Nat.le_of_ble_eq_true rfl⟩) (fun H locs hW => ?_)
    refine lv_i2l hx hb dX5_digest_93 (v := r12.toInt64) rfl ?_
    refine lv_ladd hx hb dX5_digest_94 ?_
    refine lv_lstore_n (lv' := [(1, .long ((31 * x1) + r12.toInt64)), (0, .ref (ad g 12 0))]) hx hb dX5_digest_95 rfl hl (by decide) rfl (fun ls hl => ?_)
    refine lv_ldc2 hx hb X.2.2.1 (X.2.2.2.1 _ mw_518) dX5_digest_96 ?_
    refine lv_lload_n hx hb dX5_digest_99 rfl (lv_at hl 0 rfl) ?_
    refine lv_lmul hx hb dX5_digest_100 ?_
    refine lv_aload_n hx hb dX5_digest_101 rfl (lv_at hl 1 rfl) ?_
    obtain ⟨r15, e14, hf⟩ := bnd_ex hf
    refine k_d X hW (k_V (As := []) (rest := [.long (31 * ((31 * x1) + r12.toInt64))]) X hW hml hl.1 (c_X5_litShare l g hDW   m13 _ e14) (r_recv X hW 12 0 (by decide) (by decide) rfl rfl) ⟨mw_623, kw_X5_litShare⟩ ⟨⟨rfl, rfl⟩, ko_X5_litShare, ⟨Nat.le_of_ble_eq_true rfl, Nat.le_of_ble_eq_true rfl⟩⟩ rfl rfl (Nat.le_of_ble_eq_true rfl) dX5_digest_102 ⟨Nat.le_of_ble_eq_true rfl, Nat.le_of_ble_eq_true rfl⟩) (fun H locs hW => ?_)
    refine lv_sipush (v := 1023) hx hb dX5_digest_105 (by decide) ?_
    refine lv_bipush (v := 52) hx hb dX5_digest_108 (by decide) ?_
    obtain ⟨r18, e17, hf⟩ := bnd_ex hf
    refine k_l X hW (k_S (As := [.double r15, .int 1023, .int 52]) (rest := [.long (31 * ((31 * x1) + r12.toInt64))]) X hW hml hl.1 (c_X5_bitsOf l g hDW  _ _ _ m13 _ e17) ⟨mw_624, kw_X5_bitsOf⟩ ⟨⟨rfl, rfl⟩, ko_X5_bitsOf, ⟨Nat.le_of_ble_eq_true rfl, Nat.le_of_ble_eq_true rfl⟩⟩ rfl rfl (Nat.le_of_ble_eq_true rfl) dX5_digest_110 ⟨Nat.le_of_ble_eq_true rfl, Nat.le_of_ble_eq_true rfl⟩) (fun H locs hW => ?_)
    refine lv_ladd hx hb dX5_digest_113 ?_
    refine lv_lstore_n (lv' := [(1, .long ((31 * ((31 * x1) + r12.toInt64)) + r18)), (0, .ref (ad g 12 0))]) hx hb dX5_digest_114 rfl hl (by decide) rfl (fun ls hl => ?_)
    refine lv_ldc2 hx hb X.2.2.1 (X.2.2.2.1 _ mw_518) dX5_digest_115 ?_
    refine lv_lload_n hx hb dX5_digest_118 rfl (lv_at hl 0 rfl) ?_
    refine lv_lmul hx hb dX5_digest_119 ?_
    refine lv_aload_n hx hb dX5_digest_120 rfl (lv_at hl 1 rfl) ?_
    obtain ⟨r21, m22, e20, hf⟩ := bn2_ex hf
    refine k_f X hW (k_V (As := []) (rest := [.long (31 * ((31 * ((31 * x1) + r12.toInt64)) + r18))]) X hW hml hl.1 (c_X5_meanBrightness l g hDW   m13 _ _ e20) (r_recv X hW 12 0 (by decide) (by decide) rfl rfl) ⟨mw_628, kw_X5_meanBrightness⟩ ⟨⟨rfl, rfl⟩, ko_X5_meanBrightness, ⟨Nat.le_of_ble_eq_true rfl, Nat.le_of_ble_eq_true rfl⟩⟩ rfl rfl (Nat.le_of_ble_eq_true rfl) dX5_digest_121 ⟨Nat.le_of_ble_eq_true rfl, Nat.le_of_ble_eq_true rfl⟩) (fun H locs hW => ?_)
    obtain ⟨b23, hf⟩ := chk_ex hf
    refine lv_f2d hx hb dX5_digest_124 b23 ?_
    refine lv_bipush (v := 127) hx hb dX5_digest_125 (by decide) ?_
    refine lv_bipush (v := 23) hx hb dX5_digest_127 (by decide) ?_
    obtain ⟨r25, e24, hf⟩ := bnd_ex hf
    refine k_l X hW (k_S (As := [.double (FP.f2d r21), .int 127, .int 23]) (rest := [.long (31 * ((31 * ((31 * x1) + r12.toInt64)) + r18))]) X hW hml hl.1 (c_X5_bitsOf l g hDW  _ _ _ m22 _ e24) ⟨mw_624, kw_X5_bitsOf⟩ ⟨⟨rfl, rfl⟩, ko_X5_bitsOf, ⟨Nat.le_of_ble_eq_true rfl, Nat.le_of_ble_eq_true rfl⟩⟩ rfl rfl (Nat.le_of_ble_eq_true rfl) dX5_digest_129 ⟨Nat.le_of_ble_eq_true rfl, Nat.le_of_ble_eq_true rfl⟩) (fun H locs hW => ?_)
    refine lv_ladd hx hb dX5_digest_132 ?_
    refine lv_lstore_n (lv' := [(1, .long ((31 * ((31 * ((31 * x1) + r12.toInt64)) + r18)) + r25)), (0, .ref (ad g 12 0))]) hx hb dX5_digest_133 rfl hl (by decide) rfl (fun ls hl => ?_)
    refine lv_iconst (v := 0) hx hb dX5_digest_134 (by decide) ?_
    refine lv_istore_n (lv' := [(3, .int 0), (1, .long ((31 * ((31 * ((31 * x1) + r12.toInt64)) + r18)) + r25)), (0, .ref (ad g 12 0))]) hx hb dX5_digest_135 rfl hl (by decide) rfl (fun ls hl => ?_)
    exact P_136 _ _ _ _ _ _ _ hW (lv_sub hl [2, 1, 0] rfl) hf
  have P_63 : ∀ (n63 : Nat) (x1 : Int64) (x3 : Int32) (mm : gM) (H : Heap) (locs : List Loc) (ls : Array Slot), Wd g mm s H locs → lv_has ls 4 [(0, .ref (ad g 12 0)), (1, .long x1), (3, .int x3)] → lX5_digest_63 n63 x1 x3 mm = some (r0, mZ) → W p l e rm_X5_digest s m args below meth c H locs 0 0 (MQ below (CL g mZ r0) args s 0 0 (gA g)) (F0 m 63 ls []) := by
    intro n63
    induction n63 with
    | zero => intro x1 x3 mm H locs ls hW hl hf; exact (no_some hf).elim
    | succ n63 ih_63 =>
      intro x1 x3 mm H locs ls hW hl hf
      rw [lX5_digest_63_s] at hf
      refine lv_iload_n hx hb dX5_digest_63 rfl (lv_at hl 2 rfl) ?_
      refine lv_bipush (v := 6) hx hb dX5_digest_64 (by decide) ?_
      refine lv_icmp_ge (tgt := 82) hx hb dX5_digest_66 (by decide) (fun c10 => ?_) (fun c10 => ?_)
      · replace hf := ite_t hf c10
        exact P_82 _ _ _ _ _ hW (lv_sub hl [0, 1] rfl) hf
      · replace hf := ite_f hf c10
        refine lv_aload_n hx hb dX5_digest_69 rfl (lv_at hl 0 rfl) ?_
        refine lv_lload_n hx hb dX5_digest_70 rfl (lv_at hl 1 rfl) ?_
        refine lv_iload_n hx hb dX5_digest_71 rfl (lv_at hl 2 rfl) ?_
        obtain ⟨r8, m9, e7, hf⟩ := bn2_ex hf
        refine k_l X hW (k_V (As := [.long x1, .int x3]) (rest := []) X hW hml hl.1 (c_X5_hashWithSlot l g hDW  _ _ mm _ _ e7) (r_recv X hW 12 0 (by decide) (by decide) rfl rfl) ⟨mw_560, kw_X5_hashWithSlot⟩ ⟨⟨rfl, rfl⟩, ko_X5_hashWithSlot, ⟨Nat.le_of_ble_eq_true rfl, Nat.le_of_ble_eq_true rfl⟩⟩ rfl rfl (Nat.le_of_ble_eq_true rfl) dX5_digest_72 ⟨Nat.le_of_ble_eq_true rfl, Nat.le_of_ble_eq_true rfl⟩) (fun H locs hW => ?_)
        refine lv_lstore_n (lv' := [(1, .long r8), (0, .ref (ad g 12 0)), (3, .int x3)]) hx hb dX5_digest_75 rfl hl (by decide) rfl (fun ls hl => ?_)
        refine lv_iinc (v := x3 + 1) (lv' := [(3, .int (x3 + 1)), (1, .long r8), (0, .ref (ad g 12 0))]) hx hb dX5_digest_76 hl (k := 2) rfl rfl (by decide) rfl (fun ls hl => ?_)
        refine lv_goto (tgt := 63) hx hb dX5_digest_79 (by decide) ?_
        exact ih_63 _ _ _ _ _ _ hW (lv_sub hl [2, 1, 0] rfl) hf
  have P_61 : ∀ (x1 : Int64) (mm : gM) (H : Heap) (locs : List Loc) (ls : Array Slot), Wd g mm s H locs → lv_has ls 4 [(0, .ref (ad g 12 0)), (1, .long x1)] → jX5_digest_61 x1 mm = some (r0, mZ) → W p l e rm_X5_digest s m args below meth c H locs 0 0 (MQ below (CL g mZ r0) args s 0 0 (gA g)) (F0 m 61 ls []) := by
    intro x1 mm H locs ls hW hl hf
    unfold jX5_digest_61 at hf
    refine lv_iconst (v := 0) hx hb dX5_digest_61 (by decide) ?_
    refine lv_istore_n (lv' := [(3, .int 0), (0, .ref (ad g 12 0)), (1, .long x1)]) hx hb dX5_digest_62 rfl hl (by decide) rfl (fun ls hl => ?_)
    exact P_63 _ _ _ _ _ _ _ hW (lv_sub hl [1, 2, 0] rfl) hf
  have P_33 : ∀ (n33 : Nat) (x1 : Int64) (x3 : Int32) (mm : gM) (H : Heap) (locs : List Loc) (ls : Array Slot), Wd g mm s H locs → lv_has ls 4 [(0, .ref (ad g 12 0)), (1, .long x1), (3, .int x3)] → lX5_digest_33 n33 x1 x3 mm = some (r0, mZ) → W p l e rm_X5_digest s m args below meth c H locs 0 0 (MQ below (CL g mZ r0) args s 0 0 (gA g)) (F0 m 33 ls []) := by
    intro n33
    induction n33 with
    | zero => intro x1 x3 mm H locs ls hW hl hf; exact (no_some hf).elim
    | succ n33 ih_33 =>
      intro x1 x3 mm H locs ls hW hl hf
      rw [lX5_digest_33_s] at hf
      refine lv_iload_n hx hb dX5_digest_33 rfl (lv_at hl 2 rfl) ?_
      refine lv_iconst (v := 4) hx hb dX5_digest_34 (by decide) ?_
      refine lv_icmp_ge (tgt := 61) hx hb dX5_digest_35 (by decide) (fun c6 => ?_) (fun c6 => ?_)
      · replace hf := ite_t hf c6
        exact P_61 _ _ _ _ _ hW (lv_sub hl [0, 1] rfl) hf
      · replace hf := ite_f hf c6
        refine lv_ldc2 hx hb X.2.2.1 (X.2.2.2.1 _ mw_518) dX5_digest_38 ?_
        refine lv_lload_n hx hb dX5_digest_41 rfl (lv_at hl 1 rfl) ?_
        refine lv_lmul hx hb dX5_digest_42 ?_
        refine lv_aload_n hx hb dX5_digest_43 rfl (lv_at hl 0 rfl) ?_
        refine gf_12_1 X hW (by decide) mw_252 dX5_digest_44 ?_
        refine gf_0_4 X hW (by decide) mw_127 dX5_digest_47 ?_
        refine lv_iload_n hx hb dX5_digest_50 rfl (lv_at hl 2 rfl) ?_
        obtain ⟨b5, hf⟩ := chk_ex hf
        refine r_iald X hW 5 0 (by decide) (by decide) rfl b5 dX5_digest_51 ?_
        refine lv_i2l hx hb dX5_digest_52 (v := (gi mm 5 0 x3.toNatClampNeg).toInt64) rfl ?_
        refine lv_ladd hx hb dX5_digest_53 ?_
        refine lv_lstore_n (lv' := [(1, .long ((31 * x1) + ((gi mm 5 0 x3.toNatClampNeg).toInt64))), (0, .ref (ad g 12 0)), (3, .int x3)]) hx hb dX5_digest_54 rfl hl (by decide) rfl (fun ls hl => ?_)
        refine lv_iinc (v := x3 + 1) (lv' := [(3, .int (x3 + 1)), (1, .long ((31 * x1) + ((gi mm 5 0 x3.toNatClampNeg).toInt64))), (0, .ref (ad g 12 0))]) hx hb dX5_digest_55 hl (k := 2) rfl rfl (by decide) rfl (fun ls hl => ?_)
        refine lv_goto (tgt := 33) hx hb dX5_digest_58 (by decide) ?_
        exact ih_33 _ _ _ _ _ _ hW (lv_sub hl [2, 1, 0] rfl) hf
  have P_31 : ∀ (x1 : Int64) (mm : gM) (H : Heap) (locs : List Loc) (ls : Array Slot), Wd g mm s H locs → lv_has ls 4 [(0, .ref (ad g 12 0)), (1, .long x1)] → jX5_digest_31 x1 mm = some (r0, mZ) → W p l e rm_X5_digest s m args below meth c H locs 0 0 (MQ below (CL g mZ r0) args s 0 0 (gA g)) (F0 m 31 ls []) := by
    intro x1 mm H locs ls hW hl hf
    unfold jX5_digest_31 at hf
    refine lv_iconst (v := 0) hx hb dX5_digest_31 (by decide) ?_
    refine lv_istore_n (lv' := [(3, .int 0), (0, .ref (ad g 12 0)), (1, .long x1)]) hx hb dX5_digest_32 rfl hl (by decide) rfl (fun ls hl => ?_)
    exact P_33 _ _ _ _ _ _ _ hW (lv_sub hl [1, 2, 0] rfl) hf
  have P_6 : ∀ (n6 : Nat) (x1 : Int64) (x3 : Int32) (mm : gM) (H : Heap) (locs : List Loc) (ls : Array Slot), Wd g mm s H locs → lv_has ls 4 [(0, .ref (ad g 12 0)), (1, .long x1), (3, .int x3)] → lX5_digest_6 n6 x1 x3 mm = some (r0, mZ) → W p l e rm_X5_digest s m args below meth c H locs 0 0 (MQ below (CL g mZ r0) args s 0 0 (gA g)) (F0 m 6 ls []) := by
    intro n6
    induction n6 with
    | zero => intro x1 x3 mm H locs ls hW hl hf; exact (no_some hf).elim
    | succ n6 ih_6 =>
      intro x1 x3 mm H locs ls hW hl hf
      rw [lX5_digest_6_s] at hf
      refine lv_iload_n hx hb dX5_digest_6 rfl (lv_at hl 2 rfl) ?_
      refine lv_bipush (v := 13) hx hb dX5_digest_7 (by decide) ?_
      refine lv_icmp_ge (tgt := 31) hx hb dX5_digest_9 (by decide) (fun c4 => ?_) (fun c4 => ?_)
      · replace hf := ite_t hf c4
        exact P_31 _ _ _ _ _ hW (lv_sub hl [0, 1] rfl) hf
      · replace hf := ite_f hf c4
        refine lv_ldc2 hx hb X.2.2.1 (X.2.2.2.1 _ mw_518) dX5_digest_12 ?_
        refine lv_lload_n hx hb dX5_digest_15 rfl (lv_at hl 1 rfl) ?_
        refine lv_lmul hx hb dX5_digest_16 ?_
        refine lv_aload_n hx hb dX5_digest_17 rfl (lv_at hl 0 rfl) ?_
        refine lv_iload_n hx hb dX5_digest_18 rfl (lv_at hl 2 rfl) ?_
        obtain ⟨r2, m3, e1, hf⟩ := bn2_ex hf
        refine k_i X hW (k_V (As := [.int x3]) (rest := [.long (31 * x1)]) X hW hml hl.1 (c_X5_number l g hDW  _ mm _ _ e1) (r_recv X hW 12 0 (by decide) (by decide) rfl rfl) ⟨mw_519, kw_X5_number⟩ ⟨⟨rfl, rfl⟩, ko_X5_number, ⟨Nat.le_of_ble_eq_true rfl, Nat.le_of_ble_eq_true rfl⟩⟩ rfl rfl (Nat.le_of_ble_eq_true rfl) dX5_digest_19 ⟨Nat.le_of_ble_eq_true rfl, Nat.le_of_ble_eq_true rfl⟩) (fun H locs hW => ?_)
        refine lv_i2l hx hb dX5_digest_22 (v := r2.toInt64) rfl ?_
        refine lv_ladd hx hb dX5_digest_23 ?_
        refine lv_lstore_n (lv' := [(1, .long ((31 * x1) + r2.toInt64)), (0, .ref (ad g 12 0)), (3, .int x3)]) hx hb dX5_digest_24 rfl hl (by decide) rfl (fun ls hl => ?_)
        refine lv_iinc (v := x3 + 1) (lv' := [(3, .int (x3 + 1)), (1, .long ((31 * x1) + r2.toInt64)), (0, .ref (ad g 12 0))]) hx hb dX5_digest_25 hl (k := 2) rfl rfl (by decide) rfl (fun ls hl => ?_)
        refine lv_goto (tgt := 6) hx hb dX5_digest_28 (by decide) ?_
        exact ih_6 _ _ _ _ _ _ hW (lv_sub hl [2, 1, 0] rfl) hf
  unfold fX5_digest at hf
  refine lv_ldc2 hx hb X.2.2.1 (X.2.2.2.1 _ mw_517) dX5_digest_0 ?_
  refine lv_lstore_n (lv' := [(1, .long 3347), (0, .ref (ad g 12 0))]) hx hb dX5_digest_3 rfl hl (by decide) rfl (fun ls hl => ?_)
  refine lv_iconst (v := 0) hx hb dX5_digest_4 (by decide) ?_
  refine lv_istore_n (lv' := [(3, .int 0), (1, .long 3347), (0, .ref (ad g 12 0))]) hx hb dX5_digest_5 rfl hl (by decide) rfl (fun ls hl => ?_)
  exact P_6 _ _ _ _ _ _ _ hW (lv_sub hl [2, 1, 0] rfl) hf
set_option maxRecDepth 100000 in
set_option maxHeartbeats 4000000 in
theorem c_X6_thrown (l : Launch) (g : gG) (hDW : DW g) (mm : gM) (r0 : Int32) (hf : fX6_thrown mm = some r0) : Met l yX6_thrown (Cond.code yX6_thrown cX6_thrown 1 (some .int) :: ALLW) rm_X6_thrown (CPre g mm [.ref (ad g 21 0)]) (CI g mm r0) 0 0 (gA g) := by
  refine Met.ofW (cc := cX6_thrown) (maxL := 1) (ret := (some .int)) (by decide) rfl ?_
  intro p e s m args below meth c s₁ B hml hv
  obtain ⟨ha, hFx, hP0, hlo⟩ := hv
  have X : Cx g p s m args c meth RX6 cX6_thrown := Cx_of hDW hFx hlo B
  have hx := X.1
  have hb := X.2.1
  have hr := B.returns
  have hlocks := X.2.2.2.2.2.2.2
  have hW : Wd g mm s s.heap [] := ⟨hP0, va_S.rf⟩
  rw [ha, lg_entry_eq]
  have hl := lv_entry ([.ref (ad g 21 0)] : List Value) (n := 1) (Nat.le_of_ble_eq_true rfl)
  generalize (lg_sl ([.ref (ad g 21 0)] : List Value) ++ List.replicate (1 - (lg_sl ([.ref (ad g 21 0)] : List Value)).length) Slot.unset).toArray = ls at hl ⊢
  have hl : lv_has ls 1 [(0, .ref (ad g 21 0))] := hl
  rw [← ha]
  show W p l e rm_X6_thrown s m args below meth c s.heap [] 0 0 (MQ below (CI g mm r0) args s 0 0 (gA g)) (F0 m 0 ls [])
  unfold fX6_thrown at hf
  refine lv_aload_n hx hb dX6_thrown_0 rfl (lv_at hl 0 rfl) ?_
  refine gf_21_0 X hW (by decide) mw_947 dX6_thrown_1 ?_
  exact e_i X hr hW (someinj hf) dX6_thrown_4
set_option maxRecDepth 100000 in
set_option maxHeartbeats 4000000 in
theorem c_X6_in (l : Launch) (g : gG) (hDW : DW g) (x0 : Int32) (x1 : Int32) (x2 : Int32) (mm : gM) (r0 : Int32) (hf : fX6_in x0 x1 x2 = some r0) : Met l yX6_in (Cond.code yX6_in cX6_in 3 (some .boolean) :: ALLW) rm_X6_in (CPre g mm [.int x0, .int x1, .int x2]) (CI g mm r0) 0 0 (gA g) := by
  refine Met.ofW (cc := cX6_in) (maxL := 3) (ret := (some .boolean)) (by decide) rfl ?_
  intro p e s m args below meth c s₁ B hml hv
  obtain ⟨ha, hFx, hP0, hlo⟩ := hv
  have X : Cx g p s m args c meth RX6 cX6_in := Cx_of hDW hFx hlo B
  have hx := X.1
  have hb := X.2.1
  have hr := B.returns
  have hlocks := X.2.2.2.2.2.2.2
  have hW : Wd g mm s s.heap [] := ⟨hP0, va_S.rf⟩
  rw [ha, lg_entry_eq]
  have hl := lv_entry ([.int x0, .int x1, .int x2] : List Value) (n := 3) (Nat.le_of_ble_eq_true rfl)
  generalize (lg_sl ([.int x0, .int x1, .int x2] : List Value) ++ List.replicate (3 - (lg_sl ([.int x0, .int x1, .int x2] : List Value)).length) Slot.unset).toArray = ls at hl ⊢
  have hl : lv_has ls 3 [(0, .int x0), (1, .int x1), (2, .int x2)] := hl
  rw [← ha]
  show W p l e rm_X6_in s m args below meth c s.heap [] 0 0 (MQ below (CI g mm r0) args s 0 0 (gA g)) (F0 m 0 ls [])
  have P_14 : ∀ (H : Heap) (locs : List Loc) (ls : Array Slot), Wd g mm s H locs → lv_has ls 3 [] → jX6_in_14 = some r0 → W p l e rm_X6_in s m args below meth c H locs 0 0 (MQ below (CI g mm r0) args s 0 0 (gA g)) (F0 m 14 ls []) := by
    intro  H locs ls hW hl hf
    unfold jX6_in_14 at hf
    refine lv_iconst (v := 0) hx hb dX6_in_14 (by decide) ?_
    obtain ⟨b4, hf⟩ := chk_ex hf
    exact e_z X hr hW (bz_n b4) (someinj hf) dX6_in_15
  unfold fX6_in at hf
  refine lv_iload_n hx hb dX6_in_0 rfl (lv_at hl 0 rfl) ?_
  refine lv_iload_n hx hb dX6_in_1 rfl (lv_at hl 1 rfl) ?_
  refine lv_icmp_lt (tgt := 14) hx hb dX6_in_2 (by decide) (fun c3 => ?_) (fun c3 => ?_)
  · replace hf := ite_t hf c3
    exact P_14  _ _ _ hW (lv_sub hl [] rfl) hf
  · replace hf := ite_f hf c3
    refine lv_iload_n hx hb dX6_in_5 rfl (lv_at hl 0 rfl) ?_
    refine lv_iload_n hx hb dX6_in_6 rfl (lv_at hl 2 rfl) ?_
    refine lv_icmp_gt (tgt := 14) hx hb dX6_in_7 (by decide) (fun c2 => ?_) (fun c2 => ?_)
    · replace hf := ite_t hf c2
      exact P_14  _ _ _ hW (lv_sub hl [] rfl) hf
    · replace hf := ite_f hf c2
      refine lv_iconst (v := 1) hx hb dX6_in_10 (by decide) ?_
      refine lv_goto (tgt := 15) hx hb dX6_in_11 (by decide) ?_
      obtain ⟨b1, hf⟩ := chk_ex hf
      exact e_z X hr hW (bz_n b1) (someinj hf) dX6_in_15
set_option maxRecDepth 100000 in
set_option maxHeartbeats 4000000 in
theorem c_X6_fails (l : Launch) (g : gG) (hDW : DW g) (x1 : Int32) (mm : gM) (r0 : Int32) (mZ : gM) (hf : fX6_fails x1 mm = some (r0, mZ)) : Met l yX6_fails (Cond.code yX6_fails cX6_fails 2 (some .int) :: ALLW) rm_X6_fails (CPre g mm [.ref (ad g 21 0), .int x1]) (CI g mZ r0) 0 0 (gA g) := by
  refine Met.ofW (cc := cX6_fails) (maxL := 2) (ret := (some .int)) (by decide) rfl ?_
  intro p e s m args below meth c s₁ B hml hv
  obtain ⟨ha, hFx, hP0, hlo⟩ := hv
  have X : Cx g p s m args c meth RX6 cX6_fails := Cx_of hDW hFx hlo B
  have hx := X.1
  have hb := X.2.1
  have hr := B.returns
  have hlocks := X.2.2.2.2.2.2.2
  have hW : Wd g mm s s.heap [] := ⟨hP0, va_S.rf⟩
  rw [ha, lg_entry_eq]
  have hl := lv_entry ([.ref (ad g 21 0), .int x1] : List Value) (n := 2) (Nat.le_of_ble_eq_true rfl)
  generalize (lg_sl ([.ref (ad g 21 0), .int x1] : List Value) ++ List.replicate (2 - (lg_sl ([.ref (ad g 21 0), .int x1] : List Value)).length) Slot.unset).toArray = ls at hl ⊢
  have hl : lv_has ls 2 [(0, .ref (ad g 21 0)), (1, .int x1)] := hl
  rw [← ha]
  show W p l e rm_X6_fails s m args below meth c s.heap [] 0 0 (MQ below (CI g mZ r0) args s 0 0 (gA g)) (F0 m 0 ls [])
  unfold fX6_fails at hf
  refine lv_aload_n hx hb dX6_fails_0 rfl (lv_at hl 0 rfl) ?_
  refine lv_iload_n hx hb dX6_fails_1 rfl (lv_at hl 1 rfl) ?_
  obtain ⟨m1, ex, hf⟩ := wth_ex hf
  refine pf_21_0 X hW (by decide) mw_947 dX6_fails_2 (fun H locs hW => ?_)
  replace hW := hW.same ex
  clear ex
  refine lv_iconst (v := 0) hx hb dX6_fails_5 (by decide) ?_
  obtain ⟨hf, hm⟩ := prinj hf
  replace hW := hW.same hm.symm
  exact e_i X hr hW (hf) dX6_fails_6
set_option maxRecDepth 100000 in
set_option maxHeartbeats 4000000 in
theorem c_X6_isSlot (l : Launch) (g : gG) (hDW : DW g) (x0 : Int32) (mm : gM) (r0 : Int32) (hf : fX6_isSlot x0 = some r0) : Met l yX6_isSlot (Cond.code yX6_isSlot cX6_isSlot 1 (some .boolean) :: ALLW) rm_X6_isSlot (CPre g mm [.int x0]) (CI g mm r0) 0 0 (gA g) := by
  refine Met.ofW (cc := cX6_isSlot) (maxL := 1) (ret := (some .boolean)) (by decide) rfl ?_
  intro p e s m args below meth c s₁ B hml hv
  obtain ⟨ha, hFx, hP0, hlo⟩ := hv
  have X : Cx g p s m args c meth RX6 cX6_isSlot := Cx_of hDW hFx hlo B
  have hx := X.1
  have hb := X.2.1
  have hr := B.returns
  have hlocks := X.2.2.2.2.2.2.2
  have hW : Wd g mm s s.heap [] := ⟨hP0, va_S.rf⟩
  rw [ha, lg_entry_eq]
  have hl := lv_entry ([.int x0] : List Value) (n := 1) (Nat.le_of_ble_eq_true rfl)
  generalize (lg_sl ([.int x0] : List Value) ++ List.replicate (1 - (lg_sl ([.int x0] : List Value)).length) Slot.unset).toArray = ls at hl ⊢
  have hl : lv_has ls 1 [(0, .int x0)] := hl
  rw [← ha]
  show W p l e rm_X6_isSlot s m args below meth c s.heap [] 0 0 (MQ below (CI g mm r0) args s 0 0 (gA g)) (F0 m 0 ls [])
  unfold fX6_isSlot at hf
  refine lv_iload_n hx hb dX6_isSlot_0 rfl (lv_at hl 0 rfl) ?_
  refine lv_iconst (v := 0) hx hb dX6_isSlot_1 (by decide) ?_
  refine lv_iconst (v := 5) hx hb dX6_isSlot_2 (by decide) ?_
  obtain ⟨r2, e1, hf⟩ := bnd_ex hf
  refine k_i X hW (k_S (As := [.int x0, .int 0, .int 5]) (rest := []) X hW hml hl.1 (c_X6_in l g hDW  _ _ _ mm _ e1) ⟨mw_1016, kw_X6_in⟩ ⟨⟨rfl, rfl⟩, ko_X6_in, ⟨Nat.le_of_ble_eq_true rfl, Nat.le_of_ble_eq_true rfl⟩⟩ rfl rfl (Nat.le_of_ble_eq_true rfl) dX6_isSlot_3 ⟨Nat.le_of_ble_eq_true rfl, Nat.le_of_ble_eq_true rfl⟩) (fun H locs hW => ?_)
  obtain ⟨b4, hf⟩ := chk_ex hf
  exact e_z X hr hW (bz_n b4) (someinj hf) dX6_isSlot_6
set_option maxRecDepth 100000 in
set_option maxHeartbeats 4000000 in
theorem c_X6_isSegment (l : Launch) (g : gG) (hDW : DW g) (x0 : Int32) (mm : gM) (r0 : Int32) (hf : fX6_isSegment x0 = some r0) : Met l yX6_isSegment (Cond.code yX6_isSegment cX6_isSegment 1 (some .boolean) :: ALLW) rm_X6_isSegment (CPre g mm [.int x0]) (CI g mm r0) 0 0 (gA g) := by
  refine Met.ofW (cc := cX6_isSegment) (maxL := 1) (ret := (some .boolean)) (by decide) rfl ?_
  intro p e s m args below meth c s₁ B hml hv
  obtain ⟨ha, hFx, hP0, hlo⟩ := hv
  have X : Cx g p s m args c meth RX6 cX6_isSegment := Cx_of hDW hFx hlo B
  have hx := X.1
  have hb := X.2.1
  have hr := B.returns
  have hlocks := X.2.2.2.2.2.2.2
  have hW : Wd g mm s s.heap [] := ⟨hP0, va_S.rf⟩
  rw [ha, lg_entry_eq]
  have hl := lv_entry ([.int x0] : List Value) (n := 1) (Nat.le_of_ble_eq_true rfl)
  generalize (lg_sl ([.int x0] : List Value) ++ List.replicate (1 - (lg_sl ([.int x0] : List Value)).length) Slot.unset).toArray = ls at hl ⊢
  have hl : lv_has ls 1 [(0, .int x0)] := hl
  rw [← ha]
  show W p l e rm_X6_isSegment s m args below meth c s.heap [] 0 0 (MQ below (CI g mm r0) args s 0 0 (gA g)) (F0 m 0 ls [])
  unfold fX6_isSegment at hf
  refine lv_iload_n hx hb dX6_isSegment_0 rfl (lv_at hl 0 rfl) ?_
  refine lv_iconst (v := 0) hx hb dX6_isSegment_1 (by decide) ?_
  refine lv_bipush (v := 7) hx hb dX6_isSegment_2 (by decide) ?_
  obtain ⟨r2, e1, hf⟩ := bnd_ex hf
  refine k_i X hW (k_S (As := [.int x0, .int 0, .int 7]) (rest := []) X hW hml hl.1 (c_X6_in l g hDW  _ _ _ mm _ e1) ⟨mw_1016, kw_X6_in⟩ ⟨⟨rfl, rfl⟩, ko_X6_in, ⟨Nat.le_of_ble_eq_true rfl, Nat.le_of_ble_eq_true rfl⟩⟩ rfl rfl (Nat.le_of_ble_eq_true rfl) dX6_isSegment_4 ⟨Nat.le_of_ble_eq_true rfl, Nat.le_of_ble_eq_true rfl⟩) (fun H locs hW => ?_)
  obtain ⟨b4, hf⟩ := chk_ex hf
  exact e_z X hr hW (bz_n b4) (someinj hf) dX6_isSegment_7
set_option maxRecDepth 100000 in
set_option maxHeartbeats 4000000 in
theorem c_X6_of (l : Launch) (g : gG) (hDW : DW g) (x1 : Int32) (x2 : Int32) (mm : gM) (r0 : Int32) (hf : fX6_of x1 x2 mm = some r0) : Met l yX6_of (Cond.code yX6_of cX6_of 3 (some .int) :: ALLW) rm_X6_of (CPre g mm [.ref (ad g 21 0), .int x1, .int x2]) (CI g mm r0) 0 0 (gA g) := by
  refine Met.ofW (cc := cX6_of) (maxL := 3) (ret := (some .int)) (by decide) rfl ?_
  intro p e s m args below meth c s₁ B hml hv
  obtain ⟨ha, hFx, hP0, hlo⟩ := hv
  have X : Cx g p s m args c meth RX6 cX6_of := Cx_of hDW hFx hlo B
  have hx := X.1
  have hb := X.2.1
  have hr := B.returns
  have hlocks := X.2.2.2.2.2.2.2
  have hW : Wd g mm s s.heap [] := ⟨hP0, va_S.rf⟩
  rw [ha, lg_entry_eq]
  have hl := lv_entry ([.ref (ad g 21 0), .int x1, .int x2] : List Value) (n := 3) (Nat.le_of_ble_eq_true rfl)
  generalize (lg_sl ([.ref (ad g 21 0), .int x1, .int x2] : List Value) ++ List.replicate (3 - (lg_sl ([.ref (ad g 21 0), .int x1, .int x2] : List Value)).length) Slot.unset).toArray = ls at hl ⊢
  have hl : lv_has ls 3 [(0, .ref (ad g 21 0)), (1, .int x1), (2, .int x2)] := hl
  rw [← ha]
  show W p l e rm_X6_of s m args below meth c s.heap [] 0 0 (MQ below (CI g mm r0) args s 0 0 (gA g)) (F0 m 0 ls [])
  unfold fX6_of at hf
  refine lv_aload_n hx hb dX6_of_0 rfl (lv_at hl 0 rfl) ?_
  refine gf_21_1 X hW (by decide) mw_948 dX6_of_1 ?_
  refine lv_bipush (v := 8) hx hb dX6_of_4 (by decide) ?_
  refine lv_iconst (v := 4) hx hb dX6_of_6 (by decide) ?_
  refine lv_iload_n hx hb dX6_of_7 rfl (lv_at hl 1 rfl) ?_
  refine lv_imul hx hb dX6_of_8 ?_
  refine lv_iadd hx hb dX6_of_9 ?_
  refine lv_iload_n hx hb dX6_of_10 rfl (lv_at hl 2 rfl) ?_
  refine lv_iadd hx hb dX6_of_11 ?_
  obtain ⟨b1, hf⟩ := chk_ex hf
  refine r_iald X hW 22 0 (by decide) (by decide) rfl b1 dX6_of_12 ?_
  exact e_i X hr hW (someinj hf) dX6_of_13
set_option maxRecDepth 100000 in
set_option maxHeartbeats 4000000 in
theorem c_X6_lay (l : Launch) (g : gG) (hDW : DW g) (x1 : Int32) (x2 : Int32) (x3 : Int32) (mm : gM) (mZ : gM) (hf : fX6_lay x1 x2 x3 mm = some mZ) : Met l yX6_lay (Cond.code yX6_lay cX6_lay 4 none :: ALLW) rm_X6_lay (CPre g mm [.ref (ad g 21 0), .int x1, .int x2, .int x3]) (CV g mZ) 0 0 (gA g) := by
  refine Met.ofW (cc := cX6_lay) (maxL := 4) (ret := none) (by decide) rfl ?_
  intro p e s m args below meth c s₁ B hml hv
  obtain ⟨ha, hFx, hP0, hlo⟩ := hv
  have X : Cx g p s m args c meth RX6 cX6_lay := Cx_of hDW hFx hlo B
  have hx := X.1
  have hb := X.2.1
  have hr := B.returns
  have hlocks := X.2.2.2.2.2.2.2
  have hW : Wd g mm s s.heap [] := ⟨hP0, va_S.rf⟩
  rw [ha, lg_entry_eq]
  have hl := lv_entry ([.ref (ad g 21 0), .int x1, .int x2, .int x3] : List Value) (n := 4) (Nat.le_of_ble_eq_true rfl)
  generalize (lg_sl ([.ref (ad g 21 0), .int x1, .int x2, .int x3] : List Value) ++ List.replicate (4 - (lg_sl ([.ref (ad g 21 0), .int x1, .int x2, .int x3] : List Value)).length) Slot.unset).toArray = ls at hl ⊢
  have hl : lv_has ls 4 [(0, .ref (ad g 21 0)), (1, .int x1), (2, .int x2), (3, .int x3)] := hl
  rw [← ha]
  show W p l e rm_X6_lay s m args below meth c s.heap [] 0 0 (MQ below (CV g mZ) args s 0 0 (gA g)) (F0 m 0 ls [])
  unfold fX6_lay at hf
  refine lv_aload_n hx hb dX6_lay_0 rfl (lv_at hl 0 rfl) ?_
  refine gf_21_1 X hW (by decide) mw_948 dX6_lay_1 ?_
  refine lv_bipush (v := 8) hx hb dX6_lay_4 (by decide) ?_
  refine lv_iconst (v := 4) hx hb dX6_lay_6 (by decide) ?_
  refine lv_iload_n hx hb dX6_lay_7 rfl (lv_at hl 1 rfl) ?_
  refine lv_imul hx hb dX6_lay_8 ?_
  refine lv_iadd hx hb dX6_lay_9 ?_
  refine lv_iload_n hx hb dX6_lay_10 rfl (lv_at hl 2 rfl) ?_
  refine lv_iadd hx hb dX6_lay_11 ?_
  refine lv_iload_n hx hb dX6_lay_12 rfl (lv_at hl 3 rfl) ?_
  obtain ⟨b1, hf⟩ := chk_ex hf
  obtain ⟨m2, ex, hf⟩ := wth_ex hf
  refine r_iast X hW 22 0 (by decide) (by decide) (fun _ => rfl) b1 dX6_lay_13 (fun H locs hW => ?_)
  replace hW := hW.same ex
  clear ex
  replace hW := hW.same (someinj hf).symm
  exact e_v X hr hW dX6_lay_14
