set_option maxRecDepth 100000 in
set_option maxHeartbeats 4000000 in
theorem c_X5_checkSlot (l : Launch) (g : gG) (hDW : DW g) (hst : l.stackTraces = false) (x0 : Int32) (mm : gM) (o : String ⊕ Unit) (hf : fX5_checkSlot x0 = some o) : vx_Met l yX5_checkSlot (Cond.code yX5_checkSlot cX5_checkSlot 1 none :: ALLW) rm_X5_checkSlot (CPre g mm [.int x0]) (XV g mm o) (XX g mm o) 1 6 (gA g) := by
  refine vx_ofW (cc := cX5_checkSlot) (maxL := 1) (ret := none) (by decide) rfl ?_
  intro p e s m args below meth c s₁ B hml hxt hv
  obtain ⟨ha, hFx, hP0, hlo⟩ := hv
  have X : Cx g p s m args c meth RX5 cX5_checkSlot := Cx_of hDW hFx hlo B
  have hx := X.1
  have hb := X.2.1
  have hr := B.returns
  have hlocks := X.2.2.2.2.2.2.2
  have hW : Wd g mm s s.heap [] := ⟨hP0, va_S.rf⟩
  rw [ha, lg_entry_eq]
  have hl := lv_entry ([.int x0] : List Value) (n := 1) (Nat.le_of_ble_eq_true rfl)
  generalize (lg_sl ([.int x0] : List Value) ++ List.replicate (1 - (lg_sl ([.int x0] : List Value)).length) Slot.unset).toArray = ls at hl ⊢
  have hl : lv_has ls 1 [(0, .int x0)] := hl
  rw [← ha]
  show W p l e rm_X5_checkSlot s m args below meth c s.heap [] 0 0 (vx_MQ below (XV g mm o) (XX g mm o) args s 1 6 (gA g)) (F0 m 0 ls [])
  have P_10 : ∀ (H : Heap) (locs : List Loc) (ls : Array Slot), Wd g mm s H locs → lv_has ls 1 [] → jX5_checkSlot_10 = some o → W p l e rm_X5_checkSlot s m args below meth c H locs 0 0 (vx_MQ below (XV g mm o) (XX g mm o) args s 1 6 (gA g)) (F0 m 10 ls []) := by
    intro  H locs ls hW hl hf
    unfold jX5_checkSlot_10 at hf
    have ho := someinj hf
    exact x_IOBW X hW hst (hl.1.trans hml.symm) X.2.2.2.2.2.2.1.2.2.2.1.2.2.1 dX5_checkSlot_10 dX5_checkSlot_13 dX5_checkSlot_14 dX5_checkSlot_17 dX5_checkSlot_20 hxt (Nat.le_of_ble_eq_true rfl) (Nat.le_of_ble_eq_true rfl) (Nat.le_of_ble_eq_true rfl) (Nat.le_of_ble_eq_true rfl) ho.symm (Nat.le_of_ble_eq_true rfl) (Nat.le_of_ble_eq_true rfl)
  unfold fX5_checkSlot at hf
  refine lv_iload_n hx hb dX5_checkSlot_0 rfl (lv_at hl 0 rfl) ?_
  refine lv_if_lt (tgt := 10) hx hb dX5_checkSlot_1 (by decide) (fun c2 => ?_) (fun c2 => ?_)
  · replace hf := ite_t hf c2
    exact P_10  _ _ _ hW (lv_sub hl [] rfl) hf
  · replace hf := ite_f hf c2
    refine lv_iload_n hx hb dX5_checkSlot_4 rfl (lv_at hl 0 rfl) ?_
    refine lv_bipush (v := 6) hx hb dX5_checkSlot_5 (by decide) ?_
    refine lv_icmp_lt (tgt := 21) hx hb dX5_checkSlot_7 (by decide) (fun c1 => ?_) (fun c1 => ?_)
    · replace hf := ite_t hf c1
      have ho := someinj hf
      refine vx_ret ?_
      refine W.widen (k := 1) (n := 6) (Nat.le_of_ble_eq_true rfl) (Nat.le_of_ble_eq_true rfl) ?_
      exact e_xv X hr hW ho.symm dX5_checkSlot_21
    · replace hf := ite_f hf c1
      exact P_10  _ _ _ hW (lv_sub hl [] rfl) hf
set_option maxRecDepth 100000 in
set_option maxHeartbeats 4000000 in
theorem c_X5_show (l : Launch) (g : gG) (hDW : DW g) (hst : l.stackTraces = false) (x1 : Int32) (x2 : Int32) (mm : gM) (o : String ⊕ Int32) (mZ : gM) (hf : fX5_show x1 x2 mm = some (o, mZ)) : vx_Met l yX5_show (Cond.code yX5_show cX5_show 4 (some .int) :: ALLW) rm_X5_show (CPre g mm [.ref (ad g 12 0), .int x1, .int x2]) (XQ g mZ o) (XX g mZ o) 2 12 (gA g) := by
  refine vx_ofW (cc := cX5_show) (maxL := 4) (ret := (some .int)) (by decide) rfl ?_
  intro p e s m args below meth c s₁ B hml hxt hv
  obtain ⟨ha, hFx, hP0, hlo⟩ := hv
  have X : Cx g p s m args c meth RX5 cX5_show := Cx_of hDW hFx hlo B
  have hx := X.1
  have hb := X.2.1
  have hr := B.returns
  have hlocks := X.2.2.2.2.2.2.2
  have hW : Wd g mm s s.heap [] := ⟨hP0, va_S.rf⟩
  rw [ha, lg_entry_eq]
  have hl := lv_entry ([.ref (ad g 12 0), .int x1, .int x2] : List Value) (n := 4) (Nat.le_of_ble_eq_true rfl)
  generalize (lg_sl ([.ref (ad g 12 0), .int x1, .int x2] : List Value) ++ List.replicate (4 - (lg_sl ([.ref (ad g 12 0), .int x1, .int x2] : List Value)).length) Slot.unset).toArray = ls at hl ⊢
  have hl : lv_has ls 4 [(0, .ref (ad g 12 0)), (1, .int x1), (2, .int x2)] := hl
  rw [← ha]
  show W p l e rm_X5_show s m args below meth c s.heap [] 0 0 (vx_MQ below (XQ g mZ o) (XX g mZ o) args s 2 12 (gA g)) (F0 m 0 ls [])
  have P_14 : ∀ (mm : gM) (H : Heap) (locs : List Loc) (ls : Array Slot), Wd g mm s H locs → lv_has ls 4 [] → jX5_show_14 mm = some (o, mZ) → W p l e rm_X5_show s m args below meth c H locs 1 6 (vx_MQ below (XQ g mZ o) (XX g mZ o) args s 2 12 (gA g)) (F0 m 14 ls []) := by
    intro mm H locs ls hW hl hf
    unfold jX5_show_14 at hf
    obtain ⟨ho, hm⟩ := prinj hf
    exact x_IAE X (hW.same hm.symm) hst (hl.1.trans hml.symm) X.2.2.2.2.2.2.1.2.2.2.1.2.2.2.1 dX5_show_14 dX5_show_17 dX5_show_18 dX5_show_20 dX5_show_23 hxt (Nat.le_of_ble_eq_true rfl) (Nat.le_of_ble_eq_true rfl) (Nat.le_of_ble_eq_true rfl) (Nat.le_of_ble_eq_true rfl) ho.symm (Nat.le_of_ble_eq_true rfl) (Nat.le_of_ble_eq_true rfl)
  unfold fX5_show at hf
  refine lv_iload_n hx hb dX5_show_0 rfl (lv_at hl 1 rfl) ?_
  rcases bx_ex hf with ⟨E_, e1, hf⟩ | ⟨⟨⟩, e1, hf⟩
  · refine k_xv_x X hW (kx_S (As := [.int x1]) (rest := []) X hW hml hl.1 (c_X5_checkSlot l g hDW hst  _ mm (.inl E_) e1) ⟨mw_638, kw_X5_checkSlot⟩ ⟨⟨rfl, rfl⟩, ko_X5_checkSlot, ⟨Nat.le_of_ble_eq_true rfl, Nat.le_of_ble_eq_true rfl⟩⟩ rfl rfl (Nat.le_of_ble_eq_true rfl) dX5_show_1 ⟨Nat.le_of_ble_eq_true rfl, Nat.le_of_ble_eq_true rfl⟩) (fun ce q9 H locs hW hq hv hcl => ?_)
    obtain ⟨ho, hm⟩ := prinj hf
    exact vx_out (fun x h => (hxt x h).elim) hlocks hq hv hcl (fun t ht _ => xx_of (hW.same hm.symm) ht ho.symm) hW.2.2.2 (Nat.le_of_ble_eq_true rfl) (Nat.le_of_ble_eq_true rfl)
  refine k_xv_r X hW (kx_S (As := [.int x1]) (rest := []) X hW hml hl.1 (c_X5_checkSlot l g hDW hst  _ mm (.inr ()) e1) ⟨mw_638, kw_X5_checkSlot⟩ ⟨⟨rfl, rfl⟩, ko_X5_checkSlot, ⟨Nat.le_of_ble_eq_true rfl, Nat.le_of_ble_eq_true rfl⟩⟩ rfl rfl (Nat.le_of_ble_eq_true rfl) dX5_show_1 ⟨Nat.le_of_ble_eq_true rfl, Nat.le_of_ble_eq_true rfl⟩) (fun H locs hW => ?_)
  refine lv_iload_n hx hb dX5_show_4 rfl (lv_at hl 2 rfl) ?_
  refine lv_if_lt (tgt := 14) hx hb dX5_show_5 (by decide) (fun c13 => ?_) (fun c13 => ?_)
  · replace hf := ite_t hf c13
    exact P_14 _ _ _ _ hW (lv_sub hl [] rfl) hf
  · replace hf := ite_f hf c13
    refine lv_iload_n hx hb dX5_show_8 rfl (lv_at hl 2 rfl) ?_
    refine lv_bipush (v := 18) hx hb dX5_show_9 (by decide) ?_
    refine lv_icmp_lt (tgt := 24) hx hb dX5_show_11 (by decide) (fun c12 => ?_) (fun c12 => ?_)
    · replace hf := ite_t hf c12
      refine lv_aload_n hx hb dX5_show_24 rfl (lv_at hl 0 rfl) ?_
      obtain ⟨m7, e5, hf⟩ := bnd_ex hf
      refine k_v X hW (k_V (As := []) (rest := []) X hW hml hl.1 (c_X5_saveState l g hDW   mm _ e5) (r_recv X hW 12 0 (by decide) (by decide) rfl rfl) ⟨mw_724, kw_X5_saveState⟩ ⟨⟨rfl, rfl⟩, ko_X5_saveState, ⟨Nat.le_of_ble_eq_true rfl, Nat.le_of_ble_eq_true rfl⟩⟩ rfl rfl (Nat.le_of_ble_eq_true rfl) dX5_show_25 ⟨Nat.le_of_ble_eq_true rfl, Nat.le_of_ble_eq_true rfl⟩) (fun H locs hW => ?_)
      refine lv_aload_n hx hb dX5_show_28 rfl (lv_at hl 0 rfl) ?_
      refine gf_12_1 X hW (by decide) mw_252 dX5_show_29 ?_
      refine gf_0_0 X hW (by decide) mw_113 dX5_show_32 ?_
      refine lv_iload_n hx hb dX5_show_35 rfl (lv_at hl 1 rfl) ?_
      obtain ⟨b8, hf⟩ := chk_ex hf
      refine r_iald X hW 1 0 (by decide) (by decide) rfl b8 dX5_show_36 ?_
      obtain ⟨v9, ex, hf⟩ := wth_ex hf
      refine lv_nm ex ?_
      clear ex
      refine lv_istore_n (lv' := [(3, .int v9), (0, .ref (ad g 12 0)), (1, .int x1), (2, .int x2)]) hx hb dX5_show_37 rfl hl (by decide) rfl (fun ls hl => ?_)
      refine lv_aload_n hx hb dX5_show_38 rfl (lv_at hl 1 rfl) ?_
      refine gf_12_1 X hW (by decide) mw_252 dX5_show_39 ?_
      refine gf_0_0 X hW (by decide) mw_113 dX5_show_42 ?_
      refine lv_iload_n hx hb dX5_show_45 rfl (lv_at hl 2 rfl) ?_
      refine lv_iload_n hx hb dX5_show_46 rfl (lv_at hl 3 rfl) ?_
      obtain ⟨b10, hf⟩ := chk_ex hf
      obtain ⟨m11, ex, hf⟩ := wth_ex hf
      refine r_iast X hW 1 0 (by decide) (by decide) (fun _ => rfl) b10 dX5_show_47 (fun H locs hW => ?_)
      replace hW := hW.same ex
      clear ex
      refine lv_iload_n hx hb dX5_show_48 rfl (lv_at hl 0 rfl) ?_
      obtain ⟨ho, hm⟩ := prinj hf
      replace hW := hW.same hm.symm
      refine vx_ret ?_
      refine W.widen (k := 2) (n := 12) (Nat.le_of_ble_eq_true rfl) (Nat.le_of_ble_eq_true rfl) ?_
      exact e_xi X hr hW ho.symm dX5_show_49
    · replace hf := ite_f hf c12
      exact P_14 _ _ _ _ hW (lv_sub hl [] rfl) hf
set_option maxRecDepth 100000 in
set_option maxHeartbeats 4000000 in
theorem c_X5_dot (l : Launch) (g : gG) (hDW : DW g) (hst : l.stackTraces = false) (x1 : Int32) (mm : gM) (o : String ⊕ Int32) (mZ : gM) (hf : fX5_dot x1 mm = some (o, mZ)) : vx_Met l yX5_dot (Cond.code yX5_dot cX5_dot 2 (some .int) :: ALLW) rm_X5_dot (CPre g mm [.ref (ad g 12 0), .int x1]) (XQ g mZ o) (XX g mZ o) 1 6 (gA g) := by
  refine vx_ofW (cc := cX5_dot) (maxL := 2) (ret := (some .int)) (by decide) rfl ?_
  intro p e s m args below meth c s₁ B hml hxt hv
  obtain ⟨ha, hFx, hP0, hlo⟩ := hv
  have X : Cx g p s m args c meth RX5 cX5_dot := Cx_of hDW hFx hlo B
  have hx := X.1
  have hb := X.2.1
  have hr := B.returns
  have hlocks := X.2.2.2.2.2.2.2
  have hW : Wd g mm s s.heap [] := ⟨hP0, va_S.rf⟩
  rw [ha, lg_entry_eq]
  have hl := lv_entry ([.ref (ad g 12 0), .int x1] : List Value) (n := 2) (Nat.le_of_ble_eq_true rfl)
  generalize (lg_sl ([.ref (ad g 12 0), .int x1] : List Value) ++ List.replicate (2 - (lg_sl ([.ref (ad g 12 0), .int x1] : List Value)).length) Slot.unset).toArray = ls at hl ⊢
  have hl : lv_has ls 2 [(0, .ref (ad g 12 0)), (1, .int x1)] := hl
  rw [← ha]
  show W p l e rm_X5_dot s m args below meth c s.heap [] 0 0 (vx_MQ below (XQ g mZ o) (XX g mZ o) args s 1 6 (gA g)) (F0 m 0 ls [])
  unfold fX5_dot at hf
  refine lv_iload_n hx hb dX5_dot_0 rfl (lv_at hl 1 rfl) ?_
  rcases bx_ex hf with ⟨E_, e1, hf⟩ | ⟨⟨⟩, e1, hf⟩
  · refine k_xv_x X hW (kx_S (As := [.int x1]) (rest := []) X hW hml hl.1 (c_X5_checkSlot l g hDW hst  _ mm (.inl E_) e1) ⟨mw_638, kw_X5_checkSlot⟩ ⟨⟨rfl, rfl⟩, ko_X5_checkSlot, ⟨Nat.le_of_ble_eq_true rfl, Nat.le_of_ble_eq_true rfl⟩⟩ rfl rfl (Nat.le_of_ble_eq_true rfl) dX5_dot_1 ⟨Nat.le_of_ble_eq_true rfl, Nat.le_of_ble_eq_true rfl⟩) (fun ce q9 H locs hW hq hv hcl => ?_)
    obtain ⟨ho, hm⟩ := prinj hf
    exact vx_out (fun x h => (hxt x h).elim) hlocks hq hv hcl (fun t ht _ => xx_of (hW.same hm.symm) ht ho.symm) hW.2.2.2 (Nat.le_of_ble_eq_true rfl) (Nat.le_of_ble_eq_true rfl)
  refine k_xv_r X hW (kx_S (As := [.int x1]) (rest := []) X hW hml hl.1 (c_X5_checkSlot l g hDW hst  _ mm (.inr ()) e1) ⟨mw_638, kw_X5_checkSlot⟩ ⟨⟨rfl, rfl⟩, ko_X5_checkSlot, ⟨Nat.le_of_ble_eq_true rfl, Nat.le_of_ble_eq_true rfl⟩⟩ rfl rfl (Nat.le_of_ble_eq_true rfl) dX5_dot_1 ⟨Nat.le_of_ble_eq_true rfl, Nat.le_of_ble_eq_true rfl⟩) (fun H locs hW => ?_)
  refine lv_aload_n hx hb dX5_dot_4 rfl (lv_at hl 0 rfl) ?_
  obtain ⟨m7, e5, hf⟩ := bnd_ex hf
  refine k_v X hW (k_V (As := []) (rest := []) X hW hml hl.1 (c_X5_saveState l g hDW   mm _ e5) (r_recv X hW 12 0 (by decide) (by decide) rfl rfl) ⟨mw_724, kw_X5_saveState⟩ ⟨⟨rfl, rfl⟩, ko_X5_saveState, ⟨Nat.le_of_ble_eq_true rfl, Nat.le_of_ble_eq_true rfl⟩⟩ rfl rfl (Nat.le_of_ble_eq_true rfl) dX5_dot_5 ⟨Nat.le_of_ble_eq_true rfl, Nat.le_of_ble_eq_true rfl⟩) (fun H locs hW => ?_)
  refine lv_aload_n hx hb dX5_dot_8 rfl (lv_at hl 0 rfl) ?_
  refine gf_12_1 X hW (by decide) mw_252 dX5_dot_9 ?_
  refine lv_dup hx hb dX5_dot_12 rfl ?_
  refine gf_0_5 X hW (by decide) mw_129 dX5_dot_13 ?_
  refine lv_iconst (v := 1) hx hb dX5_dot_16 (by decide) ?_
  refine lv_iload_n hx hb dX5_dot_17 rfl (lv_at hl 1 rfl) ?_
  refine lv_ishl hx hb dX5_dot_18 ?_
  refine lv_ixor hx hb dX5_dot_19 ?_
  obtain ⟨m8, ex, hf⟩ := wth_ex hf
  refine pf_0_5 X hW (by decide) mw_129 dX5_dot_20 (fun H locs hW => ?_)
  replace hW := hW.same ex
  clear ex
  refine lv_aload_n hx hb dX5_dot_23 rfl (lv_at hl 0 rfl) ?_
  refine gf_12_1 X hW (by decide) mw_252 dX5_dot_24 ?_
  refine gf_0_5 X hW (by decide) mw_129 dX5_dot_27 ?_
  refine lv_iload_n hx hb dX5_dot_30 rfl (lv_at hl 1 rfl) ?_
  obtain ⟨r10, e9, hf⟩ := bnd_ex hf
  refine k_i X hW (k_S (As := [.int (gi m8 0 0 5), .int x1]) (rest := []) X hW hml hl.1 (c_X5_bit l g hDW  _ _ m8 _ e9) ⟨mw_491, kw_X5_bit⟩ ⟨⟨rfl, rfl⟩, ko_X5_bit, ⟨Nat.le_of_ble_eq_true rfl, Nat.le_of_ble_eq_true rfl⟩⟩ rfl rfl (Nat.le_of_ble_eq_true rfl) dX5_dot_31 ⟨Nat.le_of_ble_eq_true rfl, Nat.le_of_ble_eq_true rfl⟩) (fun H locs hW => ?_)
  obtain ⟨ho, hm⟩ := prinj hf
  replace hW := hW.same hm.symm
  refine vx_ret ?_
  refine W.widen (k := 1) (n := 6) (Nat.le_of_ble_eq_true rfl) (Nat.le_of_ble_eq_true rfl) ?_
  exact e_xi X hr hW ho.symm dX5_dot_34
set_option maxRecDepth 100000 in
set_option maxHeartbeats 4000000 in
theorem c_X5_checkSegment (l : Launch) (g : gG) (hDW : DW g) (hst : l.stackTraces = false) (x0 : Int32) (mm : gM) (o : String ⊕ Unit) (hf : fX5_checkSegment x0 = some o) : vx_Met l yX5_checkSegment (Cond.code yX5_checkSegment cX5_checkSegment 1 none :: ALLW) rm_X5_checkSegment (CPre g mm [.int x0]) (XV g mm o) (XX g mm o) 1 6 (gA g) := by
  refine vx_ofW (cc := cX5_checkSegment) (maxL := 1) (ret := none) (by decide) rfl ?_
  intro p e s m args below meth c s₁ B hml hxt hv
  obtain ⟨ha, hFx, hP0, hlo⟩ := hv
  have X : Cx g p s m args c meth RX5 cX5_checkSegment := Cx_of hDW hFx hlo B
  have hx := X.1
  have hb := X.2.1
  have hr := B.returns
  have hlocks := X.2.2.2.2.2.2.2
  have hW : Wd g mm s s.heap [] := ⟨hP0, va_S.rf⟩
  rw [ha, lg_entry_eq]
  have hl := lv_entry ([.int x0] : List Value) (n := 1) (Nat.le_of_ble_eq_true rfl)
  generalize (lg_sl ([.int x0] : List Value) ++ List.replicate (1 - (lg_sl ([.int x0] : List Value)).length) Slot.unset).toArray = ls at hl ⊢
  have hl : lv_has ls 1 [(0, .int x0)] := hl
  rw [← ha]
  show W p l e rm_X5_checkSegment s m args below meth c s.heap [] 0 0 (vx_MQ below (XV g mm o) (XX g mm o) args s 1 6 (gA g)) (F0 m 0 ls [])
  have P_10 : ∀ (H : Heap) (locs : List Loc) (ls : Array Slot), Wd g mm s H locs → lv_has ls 1 [] → jX5_checkSegment_10 = some o → W p l e rm_X5_checkSegment s m args below meth c H locs 0 0 (vx_MQ below (XV g mm o) (XX g mm o) args s 1 6 (gA g)) (F0 m 10 ls []) := by
    intro  H locs ls hW hl hf
    unfold jX5_checkSegment_10 at hf
    have ho := someinj hf
    exact x_IOBW X hW hst (hl.1.trans hml.symm) X.2.2.2.2.2.2.1.2.2.2.1.2.2.2.2.1 dX5_checkSegment_10 dX5_checkSegment_13 dX5_checkSegment_14 dX5_checkSegment_17 dX5_checkSegment_20 hxt (Nat.le_of_ble_eq_true rfl) (Nat.le_of_ble_eq_true rfl) (Nat.le_of_ble_eq_true rfl) (Nat.le_of_ble_eq_true rfl) ho.symm (Nat.le_of_ble_eq_true rfl) (Nat.le_of_ble_eq_true rfl)
  unfold fX5_checkSegment at hf
  refine lv_iload_n hx hb dX5_checkSegment_0 rfl (lv_at hl 0 rfl) ?_
  refine lv_if_lt (tgt := 10) hx hb dX5_checkSegment_1 (by decide) (fun c2 => ?_) (fun c2 => ?_)
  · replace hf := ite_t hf c2
    exact P_10  _ _ _ hW (lv_sub hl [] rfl) hf
  · replace hf := ite_f hf c2
    refine lv_iload_n hx hb dX5_checkSegment_4 rfl (lv_at hl 0 rfl) ?_
    refine lv_bipush (v := 8) hx hb dX5_checkSegment_5 (by decide) ?_
    refine lv_icmp_lt (tgt := 21) hx hb dX5_checkSegment_7 (by decide) (fun c1 => ?_) (fun c1 => ?_)
    · replace hf := ite_t hf c1
      have ho := someinj hf
      refine vx_ret ?_
      refine W.widen (k := 1) (n := 6) (Nat.le_of_ble_eq_true rfl) (Nat.le_of_ble_eq_true rfl) ?_
      exact e_xv X hr hW ho.symm dX5_checkSegment_21
    · replace hf := ite_f hf c1
      exact P_10  _ _ _ hW (lv_sub hl [] rfl) hf
set_option maxRecDepth 100000 in
set_option maxHeartbeats 4000000 in
theorem c_X5_burn (l : Launch) (g : gG) (hDW : DW g) (hst : l.stackTraces = false) (x1 : Int32) (x2 : Int32) (mm : gM) (o : String ⊕ Int32) (mZ : gM) (hf : fX5_burn x1 x2 mm = some (o, mZ)) : vx_Met l yX5_burn (Cond.code yX5_burn cX5_burn 3 (some .int) :: ALLW) rm_X5_burn (CPre g mm [.ref (ad g 12 0), .int x1, .int x2]) (XQ g mZ o) (XX g mZ o) 2 12 (gA g) := by
  refine vx_ofW (cc := cX5_burn) (maxL := 3) (ret := (some .int)) (by decide) rfl ?_
  intro p e s m args below meth c s₁ B hml hxt hv
  obtain ⟨ha, hFx, hP0, hlo⟩ := hv
  have X : Cx g p s m args c meth RX5 cX5_burn := Cx_of hDW hFx hlo B
  have hx := X.1
  have hb := X.2.1
  have hr := B.returns
  have hlocks := X.2.2.2.2.2.2.2
  have hW : Wd g mm s s.heap [] := ⟨hP0, va_S.rf⟩
  rw [ha, lg_entry_eq]
  have hl := lv_entry ([.ref (ad g 12 0), .int x1, .int x2] : List Value) (n := 3) (Nat.le_of_ble_eq_true rfl)
  generalize (lg_sl ([.ref (ad g 12 0), .int x1, .int x2] : List Value) ++ List.replicate (3 - (lg_sl ([.ref (ad g 12 0), .int x1, .int x2] : List Value)).length) Slot.unset).toArray = ls at hl ⊢
  have hl : lv_has ls 3 [(0, .ref (ad g 12 0)), (1, .int x1), (2, .int x2)] := hl
  rw [← ha]
  show W p l e rm_X5_burn s m args below meth c s.heap [] 0 0 (vx_MQ below (XQ g mZ o) (XX g mZ o) args s 2 12 (gA g)) (F0 m 0 ls [])
  unfold fX5_burn at hf
  refine lv_iload_n hx hb dX5_burn_0 rfl (lv_at hl 1 rfl) ?_
  rcases bx_ex hf with ⟨E_, e1, hf⟩ | ⟨⟨⟩, e1, hf⟩
  · refine k_xv_x X hW (kx_S (As := [.int x1]) (rest := []) X hW hml hl.1 (c_X5_checkSlot l g hDW hst  _ mm (.inl E_) e1) ⟨mw_638, kw_X5_checkSlot⟩ ⟨⟨rfl, rfl⟩, ko_X5_checkSlot, ⟨Nat.le_of_ble_eq_true rfl, Nat.le_of_ble_eq_true rfl⟩⟩ rfl rfl (Nat.le_of_ble_eq_true rfl) dX5_burn_1 ⟨Nat.le_of_ble_eq_true rfl, Nat.le_of_ble_eq_true rfl⟩) (fun ce q9 H locs hW hq hv hcl => ?_)
    obtain ⟨ho, hm⟩ := prinj hf
    exact vx_out (fun x h => (hxt x h).elim) hlocks hq hv hcl (fun t ht _ => xx_of (hW.same hm.symm) ht ho.symm) hW.2.2.2 (Nat.le_of_ble_eq_true rfl) (Nat.le_of_ble_eq_true rfl)
  refine k_xv_r X hW (kx_S (As := [.int x1]) (rest := []) X hW hml hl.1 (c_X5_checkSlot l g hDW hst  _ mm (.inr ()) e1) ⟨mw_638, kw_X5_checkSlot⟩ ⟨⟨rfl, rfl⟩, ko_X5_checkSlot, ⟨Nat.le_of_ble_eq_true rfl, Nat.le_of_ble_eq_true rfl⟩⟩ rfl rfl (Nat.le_of_ble_eq_true rfl) dX5_burn_1 ⟨Nat.le_of_ble_eq_true rfl, Nat.le_of_ble_eq_true rfl⟩) (fun H locs hW => ?_)
  refine lv_iload_n hx hb dX5_burn_4 rfl (lv_at hl 2 rfl) ?_
  rcases bx_ex hf with ⟨E_, e5, hf⟩ | ⟨⟨⟩, e5, hf⟩
  · refine k_xv_x X hW (kx_S (As := [.int x2]) (rest := []) X hW hml hl.1 (c_X5_checkSegment l g hDW hst  _ mm (.inl E_) e5) ⟨mw_742, kw_X5_checkSegment⟩ ⟨⟨rfl, rfl⟩, ko_X5_checkSegment, ⟨Nat.le_of_ble_eq_true rfl, Nat.le_of_ble_eq_true rfl⟩⟩ rfl rfl (Nat.le_of_ble_eq_true rfl) dX5_burn_5 ⟨Nat.le_of_ble_eq_true rfl, Nat.le_of_ble_eq_true rfl⟩) (fun ce q9 H locs hW hq hv hcl => ?_)
    obtain ⟨ho, hm⟩ := prinj hf
    exact vx_out (fun x h => (hxt x h).elim) hlocks hq hv hcl (fun t ht _ => xx_of (hW.same hm.symm) ht ho.symm) hW.2.2.2 (Nat.le_of_ble_eq_true rfl) (Nat.le_of_ble_eq_true rfl)
  refine k_xv_r X hW (kx_S (As := [.int x2]) (rest := []) X hW hml hl.1 (c_X5_checkSegment l g hDW hst  _ mm (.inr ()) e5) ⟨mw_742, kw_X5_checkSegment⟩ ⟨⟨rfl, rfl⟩, ko_X5_checkSegment, ⟨Nat.le_of_ble_eq_true rfl, Nat.le_of_ble_eq_true rfl⟩⟩ rfl rfl (Nat.le_of_ble_eq_true rfl) dX5_burn_5 ⟨Nat.le_of_ble_eq_true rfl, Nat.le_of_ble_eq_true rfl⟩) (fun H locs hW => ?_)
  refine lv_aload_n hx hb dX5_burn_8 rfl (lv_at hl 0 rfl) ?_
  obtain ⟨m11, e9, hf⟩ := bnd_ex hf
  refine k_v X hW (k_V (As := []) (rest := []) X hW hml hl.1 (c_X5_saveState l g hDW   mm _ e9) (r_recv X hW 12 0 (by decide) (by decide) rfl rfl) ⟨mw_724, kw_X5_saveState⟩ ⟨⟨rfl, rfl⟩, ko_X5_saveState, ⟨Nat.le_of_ble_eq_true rfl, Nat.le_of_ble_eq_true rfl⟩⟩ rfl rfl (Nat.le_of_ble_eq_true rfl) dX5_burn_9 ⟨Nat.le_of_ble_eq_true rfl, Nat.le_of_ble_eq_true rfl⟩) (fun H locs hW => ?_)
  refine lv_aload_n hx hb dX5_burn_12 rfl (lv_at hl 0 rfl) ?_
  refine gf_12_1 X hW (by decide) mw_252 dX5_burn_13 ?_
  refine gf_0_1 X hW (by decide) mw_117 dX5_burn_16 ?_
  refine lv_iload_n hx hb dX5_burn_19 rfl (lv_at hl 1 rfl) ?_
  refine lv_dup2_11 hx hb dX5_burn_20 rfl rfl ?_
  obtain ⟨b12, hf⟩ := chk_ex hf
  refine r_iald X hW 2 0 (by decide) (by decide) rfl b12 dX5_burn_21 ?_
  refine lv_iconst (v := 1) hx hb dX5_burn_22 (by decide) ?_
  refine lv_iload_n hx hb dX5_burn_23 rfl (lv_at hl 2 rfl) ?_
  refine lv_ishl hx hb dX5_burn_24 ?_
  refine lv_ixor hx hb dX5_burn_25 ?_
  obtain ⟨b13, hf⟩ := chk_ex hf
  obtain ⟨m14, ex, hf⟩ := wth_ex hf
  refine r_iast X hW 2 0 (by decide) (by decide) (fun _ => rfl) b13 dX5_burn_26 (fun H locs hW => ?_)
  replace hW := hW.same ex
  clear ex
  refine lv_aload_n hx hb dX5_burn_27 rfl (lv_at hl 0 rfl) ?_
  refine gf_12_1 X hW (by decide) mw_252 dX5_burn_28 ?_
  refine gf_0_1 X hW (by decide) mw_117 dX5_burn_31 ?_
  refine lv_iload_n hx hb dX5_burn_34 rfl (lv_at hl 1 rfl) ?_
  obtain ⟨b15, hf⟩ := chk_ex hf
  refine r_iald X hW 2 0 (by decide) (by decide) rfl b15 dX5_burn_35 ?_
  refine lv_iload_n hx hb dX5_burn_36 rfl (lv_at hl 2 rfl) ?_
  obtain ⟨r17, e16, hf⟩ := bnd_ex hf
  refine k_i X hW (k_S (As := [.int (gi m14 2 0 x1.toNatClampNeg), .int x2]) (rest := []) X hW hml hl.1 (c_X5_bit l g hDW  _ _ m14 _ e16) ⟨mw_491, kw_X5_bit⟩ ⟨⟨rfl, rfl⟩, ko_X5_bit, ⟨Nat.le_of_ble_eq_true rfl, Nat.le_of_ble_eq_true rfl⟩⟩ rfl rfl (Nat.le_of_ble_eq_true rfl) dX5_burn_37 ⟨Nat.le_of_ble_eq_true rfl, Nat.le_of_ble_eq_true rfl⟩) (fun H locs hW => ?_)
  obtain ⟨ho, hm⟩ := prinj hf
  replace hW := hW.same hm.symm
  refine vx_ret ?_
  refine W.widen (k := 2) (n := 12) (Nat.le_of_ble_eq_true rfl) (Nat.le_of_ble_eq_true rfl) ?_
  exact e_xi X hr hW ho.symm dX5_burn_40
set_option maxRecDepth 100000 in
set_option maxHeartbeats 4000000 in
theorem c_X5_cut (l : Launch) (g : gG) (hDW : DW g) (hst : l.stackTraces = false) (x1 : Int32) (mm : gM) (o : String ⊕ Int32) (mZ : gM) (hf : fX5_cut x1 mm = some (o, mZ)) : vx_Met l yX5_cut (Cond.code yX5_cut cX5_cut 2 (some .int) :: ALLW) rm_X5_cut (CPre g mm [.ref (ad g 12 0), .int x1]) (XQ g mZ o) (XX g mZ o) 1 6 (gA g) := by
  refine vx_ofW (cc := cX5_cut) (maxL := 2) (ret := (some .int)) (by decide) rfl ?_
  intro p e s m args below meth c s₁ B hml hxt hv
  obtain ⟨ha, hFx, hP0, hlo⟩ := hv
  have X : Cx g p s m args c meth RX5 cX5_cut := Cx_of hDW hFx hlo B
  have hx := X.1
  have hb := X.2.1
  have hr := B.returns
  have hlocks := X.2.2.2.2.2.2.2
  have hW : Wd g mm s s.heap [] := ⟨hP0, va_S.rf⟩
  rw [ha, lg_entry_eq]
  have hl := lv_entry ([.ref (ad g 12 0), .int x1] : List Value) (n := 2) (Nat.le_of_ble_eq_true rfl)
  generalize (lg_sl ([.ref (ad g 12 0), .int x1] : List Value) ++ List.replicate (2 - (lg_sl ([.ref (ad g 12 0), .int x1] : List Value)).length) Slot.unset).toArray = ls at hl ⊢
  have hl : lv_has ls 2 [(0, .ref (ad g 12 0)), (1, .int x1)] := hl
  rw [← ha]
  show W p l e rm_X5_cut s m args below meth c s.heap [] 0 0 (vx_MQ below (XQ g mZ o) (XX g mZ o) args s 1 6 (gA g)) (F0 m 0 ls [])
  unfold fX5_cut at hf
  refine lv_iload_n hx hb dX5_cut_0 rfl (lv_at hl 1 rfl) ?_
  rcases bx_ex hf with ⟨E_, e1, hf⟩ | ⟨⟨⟩, e1, hf⟩
  · refine k_xv_x X hW (kx_S (As := [.int x1]) (rest := []) X hW hml hl.1 (c_X5_checkSegment l g hDW hst  _ mm (.inl E_) e1) ⟨mw_742, kw_X5_checkSegment⟩ ⟨⟨rfl, rfl⟩, ko_X5_checkSegment, ⟨Nat.le_of_ble_eq_true rfl, Nat.le_of_ble_eq_true rfl⟩⟩ rfl rfl (Nat.le_of_ble_eq_true rfl) dX5_cut_1 ⟨Nat.le_of_ble_eq_true rfl, Nat.le_of_ble_eq_true rfl⟩) (fun ce q9 H locs hW hq hv hcl => ?_)
    obtain ⟨ho, hm⟩ := prinj hf
    exact vx_out (fun x h => (hxt x h).elim) hlocks hq hv hcl (fun t ht _ => xx_of (hW.same hm.symm) ht ho.symm) hW.2.2.2 (Nat.le_of_ble_eq_true rfl) (Nat.le_of_ble_eq_true rfl)
  refine k_xv_r X hW (kx_S (As := [.int x1]) (rest := []) X hW hml hl.1 (c_X5_checkSegment l g hDW hst  _ mm (.inr ()) e1) ⟨mw_742, kw_X5_checkSegment⟩ ⟨⟨rfl, rfl⟩, ko_X5_checkSegment, ⟨Nat.le_of_ble_eq_true rfl, Nat.le_of_ble_eq_true rfl⟩⟩ rfl rfl (Nat.le_of_ble_eq_true rfl) dX5_cut_1 ⟨Nat.le_of_ble_eq_true rfl, Nat.le_of_ble_eq_true rfl⟩) (fun H locs hW => ?_)
  refine lv_aload_n hx hb dX5_cut_4 rfl (lv_at hl 0 rfl) ?_
  obtain ⟨m7, e5, hf⟩ := bnd_ex hf
  refine k_v X hW (k_V (As := []) (rest := []) X hW hml hl.1 (c_X5_saveState l g hDW   mm _ e5) (r_recv X hW 12 0 (by decide) (by decide) rfl rfl) ⟨mw_724, kw_X5_saveState⟩ ⟨⟨rfl, rfl⟩, ko_X5_saveState, ⟨Nat.le_of_ble_eq_true rfl, Nat.le_of_ble_eq_true rfl⟩⟩ rfl rfl (Nat.le_of_ble_eq_true rfl) dX5_cut_5 ⟨Nat.le_of_ble_eq_true rfl, Nat.le_of_ble_eq_true rfl⟩) (fun H locs hW => ?_)
  refine lv_aload_n hx hb dX5_cut_8 rfl (lv_at hl 0 rfl) ?_
  refine gf_12_1 X hW (by decide) mw_252 dX5_cut_9 ?_
  refine lv_dup hx hb dX5_cut_12 rfl ?_
  refine gf_0_6 X hW (by decide) mw_132 dX5_cut_13 ?_
  refine lv_iconst (v := 1) hx hb dX5_cut_16 (by decide) ?_
  refine lv_iload_n hx hb dX5_cut_17 rfl (lv_at hl 1 rfl) ?_
  refine lv_ishl hx hb dX5_cut_18 ?_
  refine lv_ixor hx hb dX5_cut_19 ?_
  obtain ⟨m8, ex, hf⟩ := wth_ex hf
  refine pf_0_6 X hW (by decide) mw_132 dX5_cut_20 (fun H locs hW => ?_)
  replace hW := hW.same ex
  clear ex
  refine lv_aload_n hx hb dX5_cut_23 rfl (lv_at hl 0 rfl) ?_
  refine gf_12_1 X hW (by decide) mw_252 dX5_cut_24 ?_
  refine gf_0_6 X hW (by decide) mw_132 dX5_cut_27 ?_
  refine lv_iload_n hx hb dX5_cut_30 rfl (lv_at hl 1 rfl) ?_
  obtain ⟨r10, e9, hf⟩ := bnd_ex hf
  refine k_i X hW (k_S (As := [.int (gi m8 0 0 6), .int x1]) (rest := []) X hW hml hl.1 (c_X5_bit l g hDW  _ _ m8 _ e9) ⟨mw_491, kw_X5_bit⟩ ⟨⟨rfl, rfl⟩, ko_X5_bit, ⟨Nat.le_of_ble_eq_true rfl, Nat.le_of_ble_eq_true rfl⟩⟩ rfl rfl (Nat.le_of_ble_eq_true rfl) dX5_cut_31 ⟨Nat.le_of_ble_eq_true rfl, Nat.le_of_ble_eq_true rfl⟩) (fun H locs hW => ?_)
  obtain ⟨ho, hm⟩ := prinj hf
  replace hW := hW.same hm.symm
  refine vx_ret ?_
  refine W.widen (k := 1) (n := 6) (Nat.le_of_ble_eq_true rfl) (Nat.le_of_ble_eq_true rfl) ?_
  exact e_xi X hr hW ho.symm dX5_cut_34
set_option maxRecDepth 100000 in
set_option maxHeartbeats 4000000 in
theorem c_X5_checkTime (l : Launch) (g : gG) (hDW : DW g) (hst : l.stackTraces = false) (x0 : Int32) (mm : gM) (o : String ⊕ Unit) (hf : fX5_checkTime x0 = some o) : vx_Met l yX5_checkTime (Cond.code yX5_checkTime cX5_checkTime 1 none :: ALLW) rm_X5_checkTime (CPre g mm [.int x0]) (XV g mm o) (XX g mm o) 1 6 (gA g) := by
  refine vx_ofW (cc := cX5_checkTime) (maxL := 1) (ret := none) (by decide) rfl ?_
  intro p e s m args below meth c s₁ B hml hxt hv
  obtain ⟨ha, hFx, hP0, hlo⟩ := hv
  have X : Cx g p s m args c meth RX5 cX5_checkTime := Cx_of hDW hFx hlo B
  have hx := X.1
  have hb := X.2.1
  have hr := B.returns
  have hlocks := X.2.2.2.2.2.2.2
  have hW : Wd g mm s s.heap [] := ⟨hP0, va_S.rf⟩
  rw [ha, lg_entry_eq]
  have hl := lv_entry ([.int x0] : List Value) (n := 1) (Nat.le_of_ble_eq_true rfl)
  generalize (lg_sl ([.int x0] : List Value) ++ List.replicate (1 - (lg_sl ([.int x0] : List Value)).length) Slot.unset).toArray = ls at hl ⊢
  have hl : lv_has ls 1 [(0, .int x0)] := hl
  rw [← ha]
  show W p l e rm_X5_checkTime s m args below meth c s.heap [] 0 0 (vx_MQ below (XV g mm o) (XX g mm o) args s 1 6 (gA g)) (F0 m 0 ls [])
  have P_10 : ∀ (H : Heap) (locs : List Loc) (ls : Array Slot), Wd g mm s H locs → lv_has ls 1 [] → jX5_checkTime_10 = some o → W p l e rm_X5_checkTime s m args below meth c H locs 0 0 (vx_MQ below (XV g mm o) (XX g mm o) args s 1 6 (gA g)) (F0 m 10 ls []) := by
    intro  H locs ls hW hl hf
    unfold jX5_checkTime_10 at hf
    have ho := someinj hf
    exact x_IAEW X hW hst (hl.1.trans hml.symm) X.2.2.2.2.2.2.1.2.2.2.1.2.2.2.2.2.1 dX5_checkTime_10 dX5_checkTime_13 dX5_checkTime_14 dX5_checkTime_17 dX5_checkTime_20 hxt (Nat.le_of_ble_eq_true rfl) (Nat.le_of_ble_eq_true rfl) (Nat.le_of_ble_eq_true rfl) (Nat.le_of_ble_eq_true rfl) ho.symm (Nat.le_of_ble_eq_true rfl) (Nat.le_of_ble_eq_true rfl)
  unfold fX5_checkTime at hf
  refine lv_iload_n hx hb dX5_checkTime_0 rfl (lv_at hl 0 rfl) ?_
  refine lv_if_lt (tgt := 10) hx hb dX5_checkTime_1 (by decide) (fun c2 => ?_) (fun c2 => ?_)
  · replace hf := ite_t hf c2
    exact P_10  _ _ _ hW (lv_sub hl [] rfl) hf
  · replace hf := ite_f hf c2
    refine lv_iload_n hx hb dX5_checkTime_4 rfl (lv_at hl 0 rfl) ?_
    refine lv_bipush (v := 20) hx hb dX5_checkTime_5 (by decide) ?_
    refine lv_icmp_le (tgt := 21) hx hb dX5_checkTime_7 (by decide) (fun c1 => ?_) (fun c1 => ?_)
    · replace hf := ite_t hf c1
      have ho := someinj hf
      refine vx_ret ?_
      refine W.widen (k := 1) (n := 6) (Nat.le_of_ble_eq_true rfl) (Nat.le_of_ble_eq_true rfl) ?_
      exact e_xv X hr hW ho.symm dX5_checkTime_21
    · replace hf := ite_f hf c1
      exact P_10  _ _ _ hW (lv_sub hl [] rfl) hf
set_option maxRecDepth 100000 in
set_option maxHeartbeats 4000000 in
theorem c_X5_time (l : Launch) (g : gG) (hDW : DW g) (hst : l.stackTraces = false) (x1 : Int32) (x2 : Int32) (mm : gM) (o : String ⊕ Int32) (mZ : gM) (hf : fX5_time x1 x2 mm = some (o, mZ)) : vx_Met l yX5_time (Cond.code yX5_time cX5_time 4 (some .int) :: ALLW) rm_X5_time (CPre g mm [.ref (ad g 12 0), .int x1, .int x2]) (XQ g mZ o) (XX g mZ o) 2 12 (gA g) := by
  refine vx_ofW (cc := cX5_time) (maxL := 4) (ret := (some .int)) (by decide) rfl ?_
  intro p e s m args below meth c s₁ B hml hxt hv
  obtain ⟨ha, hFx, hP0, hlo⟩ := hv
  have X : Cx g p s m args c meth RX5 cX5_time := Cx_of hDW hFx hlo B
  have hx := X.1
  have hb := X.2.1
  have hr := B.returns
  have hlocks := X.2.2.2.2.2.2.2
  have hW : Wd g mm s s.heap [] := ⟨hP0, va_S.rf⟩
  rw [ha, lg_entry_eq]
  have hl := lv_entry ([.ref (ad g 12 0), .int x1, .int x2] : List Value) (n := 4) (Nat.le_of_ble_eq_true rfl)
  generalize (lg_sl ([.ref (ad g 12 0), .int x1, .int x2] : List Value) ++ List.replicate (4 - (lg_sl ([.ref (ad g 12 0), .int x1, .int x2] : List Value)).length) Slot.unset).toArray = ls at hl ⊢
  have hl : lv_has ls 4 [(0, .ref (ad g 12 0)), (1, .int x1), (2, .int x2)] := hl
  rw [← ha]
  show W p l e rm_X5_time s m args below meth c s.heap [] 0 0 (vx_MQ below (XQ g mZ o) (XX g mZ o) args s 2 12 (gA g)) (F0 m 0 ls [])
  unfold fX5_time at hf
  refine lv_iload_n hx hb dX5_time_0 rfl (lv_at hl 1 rfl) ?_
  rcases bx_ex hf with ⟨E_, e1, hf⟩ | ⟨⟨⟩, e1, hf⟩
  · refine k_xv_x X hW (kx_S (As := [.int x1]) (rest := []) X hW hml hl.1 (c_X5_checkSlot l g hDW hst  _ mm (.inl E_) e1) ⟨mw_638, kw_X5_checkSlot⟩ ⟨⟨rfl, rfl⟩, ko_X5_checkSlot, ⟨Nat.le_of_ble_eq_true rfl, Nat.le_of_ble_eq_true rfl⟩⟩ rfl rfl (Nat.le_of_ble_eq_true rfl) dX5_time_1 ⟨Nat.le_of_ble_eq_true rfl, Nat.le_of_ble_eq_true rfl⟩) (fun ce q9 H locs hW hq hv hcl => ?_)
    obtain ⟨ho, hm⟩ := prinj hf
    exact vx_out (fun x h => (hxt x h).elim) hlocks hq hv hcl (fun t ht _ => xx_of (hW.same hm.symm) ht ho.symm) hW.2.2.2 (Nat.le_of_ble_eq_true rfl) (Nat.le_of_ble_eq_true rfl)
  refine k_xv_r X hW (kx_S (As := [.int x1]) (rest := []) X hW hml hl.1 (c_X5_checkSlot l g hDW hst  _ mm (.inr ()) e1) ⟨mw_638, kw_X5_checkSlot⟩ ⟨⟨rfl, rfl⟩, ko_X5_checkSlot, ⟨Nat.le_of_ble_eq_true rfl, Nat.le_of_ble_eq_true rfl⟩⟩ rfl rfl (Nat.le_of_ble_eq_true rfl) dX5_time_1 ⟨Nat.le_of_ble_eq_true rfl, Nat.le_of_ble_eq_true rfl⟩) (fun H locs hW => ?_)
  refine lv_iload_n hx hb dX5_time_4 rfl (lv_at hl 2 rfl) ?_
  rcases bx_ex hf with ⟨E_, e5, hf⟩ | ⟨⟨⟩, e5, hf⟩
  · refine k_xv_x X hW (kx_S (As := [.int x2]) (rest := []) X hW hml hl.1 (c_X5_checkTime l g hDW hst  _ mm (.inl E_) e5) ⟨mw_760, kw_X5_checkTime⟩ ⟨⟨rfl, rfl⟩, ko_X5_checkTime, ⟨Nat.le_of_ble_eq_true rfl, Nat.le_of_ble_eq_true rfl⟩⟩ rfl rfl (Nat.le_of_ble_eq_true rfl) dX5_time_5 ⟨Nat.le_of_ble_eq_true rfl, Nat.le_of_ble_eq_true rfl⟩) (fun ce q9 H locs hW hq hv hcl => ?_)
    obtain ⟨ho, hm⟩ := prinj hf
    exact vx_out (fun x h => (hxt x h).elim) hlocks hq hv hcl (fun t ht _ => xx_of (hW.same hm.symm) ht ho.symm) hW.2.2.2 (Nat.le_of_ble_eq_true rfl) (Nat.le_of_ble_eq_true rfl)
  refine k_xv_r X hW (kx_S (As := [.int x2]) (rest := []) X hW hml hl.1 (c_X5_checkTime l g hDW hst  _ mm (.inr ()) e5) ⟨mw_760, kw_X5_checkTime⟩ ⟨⟨rfl, rfl⟩, ko_X5_checkTime, ⟨Nat.le_of_ble_eq_true rfl, Nat.le_of_ble_eq_true rfl⟩⟩ rfl rfl (Nat.le_of_ble_eq_true rfl) dX5_time_5 ⟨Nat.le_of_ble_eq_true rfl, Nat.le_of_ble_eq_true rfl⟩) (fun H locs hW => ?_)
  refine lv_aload_n hx hb dX5_time_8 rfl (lv_at hl 0 rfl) ?_
  obtain ⟨m11, e9, hf⟩ := bnd_ex hf
  refine k_v X hW (k_V (As := []) (rest := []) X hW hml hl.1 (c_X5_saveState l g hDW   mm _ e9) (r_recv X hW 12 0 (by decide) (by decide) rfl rfl) ⟨mw_724, kw_X5_saveState⟩ ⟨⟨rfl, rfl⟩, ko_X5_saveState, ⟨Nat.le_of_ble_eq_true rfl, Nat.le_of_ble_eq_true rfl⟩⟩ rfl rfl (Nat.le_of_ble_eq_true rfl) dX5_time_9 ⟨Nat.le_of_ble_eq_true rfl, Nat.le_of_ble_eq_true rfl⟩) (fun H locs hW => ?_)
  refine lv_aload_n hx hb dX5_time_12 rfl (lv_at hl 0 rfl) ?_
  refine gf_12_1 X hW (by decide) mw_252 dX5_time_13 ?_
  refine gf_0_2 X hW (by decide) mw_120 dX5_time_16 ?_
  refine lv_iload_n hx hb dX5_time_19 rfl (lv_at hl 1 rfl) ?_
  obtain ⟨b12, hf⟩ := chk_ex hf
  refine r_iald X hW 3 0 (by decide) (by decide) rfl b12 dX5_time_20 ?_
  obtain ⟨v13, ex, hf⟩ := wth_ex hf
  refine lv_nm ex ?_
  clear ex
  refine lv_istore_n (lv' := [(3, .int v13), (0, .ref (ad g 12 0)), (1, .int x1), (2, .int x2)]) hx hb dX5_time_21 rfl hl (by decide) rfl (fun ls hl => ?_)
  refine lv_aload_n hx hb dX5_time_22 rfl (lv_at hl 1 rfl) ?_
  refine gf_12_1 X hW (by decide) mw_252 dX5_time_23 ?_
  refine gf_0_2 X hW (by decide) mw_120 dX5_time_26 ?_
  refine lv_iload_n hx hb dX5_time_29 rfl (lv_at hl 2 rfl) ?_
  refine lv_iload_n hx hb dX5_time_30 rfl (lv_at hl 3 rfl) ?_
  obtain ⟨b14, hf⟩ := chk_ex hf
  obtain ⟨m15, ex, hf⟩ := wth_ex hf
  refine r_iast X hW 3 0 (by decide) (by decide) (fun _ => rfl) b14 dX5_time_31 (fun H locs hW => ?_)
  replace hW := hW.same ex
  clear ex
  refine lv_aload_n hx hb dX5_time_32 rfl (lv_at hl 1 rfl) ?_
  refine gf_12_1 X hW (by decide) mw_252 dX5_time_33 ?_
  refine lv_iconst (v := 0) hx hb dX5_time_36 (by decide) ?_
  obtain ⟨m16, ex, hf⟩ := wth_ex hf
  refine pf_0_8 X hW (by decide) mw_136 dX5_time_37 (fun H locs hW => ?_)
  replace hW := hW.same ex
  clear ex
  refine lv_iload_n hx hb dX5_time_40 rfl (lv_at hl 0 rfl) ?_
  obtain ⟨ho, hm⟩ := prinj hf
  replace hW := hW.same hm.symm
  refine vx_ret ?_
  refine W.widen (k := 2) (n := 12) (Nat.le_of_ble_eq_true rfl) (Nat.le_of_ble_eq_true rfl) ?_
  exact e_xi X hr hW ho.symm dX5_time_41
set_option maxRecDepth 100000 in
set_option maxHeartbeats 4000000 in
theorem c_X5_checkBalanced (l : Launch) (g : gG) (hDW : DW g) (hst : l.stackTraces = false) (x0 : Int32) (mm : gM) (o : String ⊕ Unit) (hf : fX5_checkBalanced x0 = some o) : vx_Met l yX5_checkBalanced (Cond.code yX5_checkBalanced cX5_checkBalanced 1 none :: ALLW) rm_X5_checkBalanced (CPre g mm [.int x0]) (XV g mm o) (XX g mm o) 1 6 (gA g) := by
  refine vx_ofW (cc := cX5_checkBalanced) (maxL := 1) (ret := none) (by decide) rfl ?_
  intro p e s m args below meth c s₁ B hml hxt hv
  obtain ⟨ha, hFx, hP0, hlo⟩ := hv
  have X : Cx g p s m args c meth RX5 cX5_checkBalanced := Cx_of hDW hFx hlo B
  have hx := X.1
  have hb := X.2.1
  have hr := B.returns
  have hlocks := X.2.2.2.2.2.2.2
  have hW : Wd g mm s s.heap [] := ⟨hP0, va_S.rf⟩
  rw [ha, lg_entry_eq]
  have hl := lv_entry ([.int x0] : List Value) (n := 1) (Nat.le_of_ble_eq_true rfl)
  generalize (lg_sl ([.int x0] : List Value) ++ List.replicate (1 - (lg_sl ([.int x0] : List Value)).length) Slot.unset).toArray = ls at hl ⊢
  have hl : lv_has ls 1 [(0, .int x0)] := hl
  rw [← ha]
  show W p l e rm_X5_checkBalanced s m args below meth c s.heap [] 0 0 (vx_MQ below (XV g mm o) (XX g mm o) args s 1 6 (gA g)) (F0 m 0 ls [])
  have P_12 : ∀ (H : Heap) (locs : List Loc) (ls : Array Slot), Wd g mm s H locs → lv_has ls 1 [] → jX5_checkBalanced_12 = some o → W p l e rm_X5_checkBalanced s m args below meth c H locs 0 0 (vx_MQ below (XV g mm o) (XX g mm o) args s 1 6 (gA g)) (F0 m 12 ls []) := by
    intro  H locs ls hW hl hf
    unfold jX5_checkBalanced_12 at hf
    have ho := someinj hf
    exact x_IAEW X hW hst (hl.1.trans hml.symm) X.2.2.2.2.2.2.1.2.2.2.1.2.2.2.2.2.2.1 dX5_checkBalanced_12 dX5_checkBalanced_15 dX5_checkBalanced_16 dX5_checkBalanced_19 dX5_checkBalanced_22 hxt (Nat.le_of_ble_eq_true rfl) (Nat.le_of_ble_eq_true rfl) (Nat.le_of_ble_eq_true rfl) (Nat.le_of_ble_eq_true rfl) ho.symm (Nat.le_of_ble_eq_true rfl) (Nat.le_of_ble_eq_true rfl)
  unfold fX5_checkBalanced at hf
  refine lv_iload_n hx hb dX5_checkBalanced_0 rfl (lv_at hl 0 rfl) ?_
  refine lv_bipush (v := 6) hx hb dX5_checkBalanced_1 (by decide) ?_
  refine lv_icmp_lt (tgt := 12) hx hb dX5_checkBalanced_3 (by decide) (fun c2 => ?_) (fun c2 => ?_)
  · replace hf := ite_t hf c2
    exact P_12  _ _ _ hW (lv_sub hl [] rfl) hf
  · replace hf := ite_f hf c2
    refine lv_iload_n hx hb dX5_checkBalanced_6 rfl (lv_at hl 0 rfl) ?_
    refine lv_bipush (v := 60) hx hb dX5_checkBalanced_7 (by decide) ?_
    refine lv_icmp_le (tgt := 23) hx hb dX5_checkBalanced_9 (by decide) (fun c1 => ?_) (fun c1 => ?_)
    · replace hf := ite_t hf c1
      have ho := someinj hf
      refine vx_ret ?_
      refine W.widen (k := 1) (n := 6) (Nat.le_of_ble_eq_true rfl) (Nat.le_of_ble_eq_true rfl) ?_
      exact e_xv X hr hW ho.symm dX5_checkBalanced_23
    · replace hf := ite_f hf c1
      exact P_12  _ _ _ hW (lv_sub hl [] rfl) hf
set_option maxRecDepth 100000 in
set_option maxHeartbeats 4000000 in
theorem c_X5_balance (l : Launch) (g : gG) (hDW : DW g) (hst : l.stackTraces = false) (x1 : Int32) (mm : gM) (o : String ⊕ Int32) (mZ : gM) (hf : fX5_balance x1 mm = some (o, mZ)) : vx_Met l yX5_balance (Cond.code yX5_balance cX5_balance 4 (some .int) :: ALLW) rm_X5_balance (CPre g mm [.ref (ad g 12 0), .int x1]) (XQ g mZ o) (XX g mZ o) 2 12 (gA g) := by
  refine vx_ofW (cc := cX5_balance) (maxL := 4) (ret := (some .int)) (by decide) rfl ?_
  intro p e s m args below meth c s₁ B hml hxt hv
  obtain ⟨ha, hFx, hP0, hlo⟩ := hv
  have X : Cx g p s m args c meth RX5 cX5_balance := Cx_of hDW hFx hlo B
  have hx := X.1
  have hb := X.2.1
  have hr := B.returns
  have hlocks := X.2.2.2.2.2.2.2
  have hW : Wd g mm s s.heap [] := ⟨hP0, va_S.rf⟩
  rw [ha, lg_entry_eq]
  have hl := lv_entry ([.ref (ad g 12 0), .int x1] : List Value) (n := 4) (Nat.le_of_ble_eq_true rfl)
  generalize (lg_sl ([.ref (ad g 12 0), .int x1] : List Value) ++ List.replicate (4 - (lg_sl ([.ref (ad g 12 0), .int x1] : List Value)).length) Slot.unset).toArray = ls at hl ⊢
  have hl : lv_has ls 4 [(0, .ref (ad g 12 0)), (1, .int x1)] := hl
  rw [← ha]
  show W p l e rm_X5_balance s m args below meth c s.heap [] 0 0 (vx_MQ below (XQ g mZ o) (XX g mZ o) args s 2 12 (gA g)) (F0 m 0 ls [])
  have P_67 : ∀ (x2 : Int32) (mm : gM) (H : Heap) (locs : List Loc) (ls : Array Slot), Wd g mm s H locs → lv_has ls 4 [(0, .ref (ad g 12 0)), (2, .int x2)] → jX5_balance_67 x2 mm = some (o, mZ) → W p l e rm_X5_balance s m args below meth c H locs 1 6 (vx_MQ below (XQ g mZ o) (XX g mZ o) args s 2 12 (gA g)) (F0 m 67 ls []) := by
    intro x2 mm H locs ls hW hl hf
    unfold jX5_balance_67 at hf
    refine lv_aload_n hx hb dX5_balance_67 rfl (lv_at hl 0 rfl) ?_
    refine gf_12_1 X hW (by decide) mw_252 dX5_balance_68 ?_
    refine lv_iconst (v := 0) hx hb dX5_balance_71 (by decide) ?_
    obtain ⟨m16, ex, hf⟩ := wth_ex hf
    refine pf_0_8 X hW (by decide) mw_136 dX5_balance_72 (fun H locs hW => ?_)
    replace hW := hW.same ex
    clear ex
    refine lv_iload_n hx hb dX5_balance_75 rfl (lv_at hl 1 rfl) ?_
    obtain ⟨ho, hm⟩ := prinj hf
    replace hW := hW.same hm.symm
    refine vx_ret ?_
    refine W.widen (k := 2) (n := 12) (Nat.le_of_ble_eq_true rfl) (Nat.le_of_ble_eq_true rfl) ?_
    exact e_xi X hr hW ho.symm dX5_balance_76
  have P_37 : ∀ (n37 : Nat) (x2 : Int32) (x3 : Int32) (mm : gM) (H : Heap) (locs : List Loc) (ls : Array Slot), Wd g mm s H locs → lv_has ls 4 [(0, .ref (ad g 12 0)), (2, .int x2), (3, .int x3)] → lX5_balance_37 n37 x2 x3 mm = some (o, mZ) → W p l e rm_X5_balance s m args below meth c H locs 1 6 (vx_MQ below (XQ g mZ o) (XX g mZ o) args s 2 12 (gA g)) (F0 m 37 ls []) := by
    intro n37
    induction n37 with
    | zero => intro x2 x3 mm H locs ls hW hl hf; exact (no_some hf).elim
    | succ n37 ih_37 =>
      intro x2 x3 mm H locs ls hW hl hf
      rw [lX5_balance_37_s] at hf
      refine lv_iload_n hx hb dX5_balance_37 rfl (lv_at hl 2 rfl) ?_
      refine lv_bipush (v := 6) hx hb dX5_balance_38 (by decide) ?_
      refine lv_icmp_ge (tgt := 67) hx hb dX5_balance_40 (by decide) (fun c15 => ?_) (fun c15 => ?_)
      · replace hf := ite_t hf c15
        exact P_67 _ _ _ _ _ hW (lv_sub hl [0, 1] rfl) hf
      · replace hf := ite_f hf c15
        refine lv_aload_n hx hb dX5_balance_43 rfl (lv_at hl 0 rfl) ?_
        refine gf_12_1 X hW (by decide) mw_252 dX5_balance_44 ?_
        refine gf_0_2 X hW (by decide) mw_120 dX5_balance_47 ?_
        refine lv_iload_n hx hb dX5_balance_50 rfl (lv_at hl 2 rfl) ?_
        refine lv_aload_n hx hb dX5_balance_51 rfl (lv_at hl 0 rfl) ?_
        refine gf_12_3 X hW (by decide) mw_254 dX5_balance_52 ?_
        refine gf_13_0 X hW (by decide) mw_223 dX5_balance_55 ?_
        refine lv_iload_n hx hb dX5_balance_58 rfl (lv_at hl 2 rfl) ?_
        obtain ⟨b12, hf⟩ := chk_ex hf
        refine r_iald X hW 14 0 (by decide) (by decide) rfl b12 dX5_balance_59 ?_
        obtain ⟨b13, hf⟩ := chk_ex hf
        obtain ⟨m14, ex, hf⟩ := wth_ex hf
        refine r_iast X hW 3 0 (by decide) (by decide) (fun _ => rfl) b13 dX5_balance_60 (fun H locs hW => ?_)
        replace hW := hW.same ex
        clear ex
        refine lv_iinc (v := x3 + 1) (lv' := [(3, .int (x3 + 1)), (0, .ref (ad g 12 0)), (2, .int x2)]) hx hb dX5_balance_61 hl (k := 2) rfl rfl (by decide) rfl (fun ls hl => ?_)
        refine lv_goto (tgt := 37) hx hb dX5_balance_64 (by decide) ?_
        exact ih_37 _ _ _ _ _ _ hW (lv_sub hl [1, 2, 0] rfl) hf
  unfold fX5_balance at hf
  refine lv_iload_n hx hb dX5_balance_0 rfl (lv_at hl 1 rfl) ?_
  rcases bx_ex hf with ⟨E_, e1, hf⟩ | ⟨⟨⟩, e1, hf⟩
  · refine k_xv_x X hW (kx_S (As := [.int x1]) (rest := []) X hW hml hl.1 (c_X5_checkBalanced l g hDW hst  _ mm (.inl E_) e1) ⟨mw_772, kw_X5_checkBalanced⟩ ⟨⟨rfl, rfl⟩, ko_X5_checkBalanced, ⟨Nat.le_of_ble_eq_true rfl, Nat.le_of_ble_eq_true rfl⟩⟩ rfl rfl (Nat.le_of_ble_eq_true rfl) dX5_balance_1 ⟨Nat.le_of_ble_eq_true rfl, Nat.le_of_ble_eq_true rfl⟩) (fun ce q9 H locs hW hq hv hcl => ?_)
    obtain ⟨ho, hm⟩ := prinj hf
    exact vx_out (fun x h => (hxt x h).elim) hlocks hq hv hcl (fun t ht _ => xx_of (hW.same hm.symm) ht ho.symm) hW.2.2.2 (Nat.le_of_ble_eq_true rfl) (Nat.le_of_ble_eq_true rfl)
  refine k_xv_r X hW (kx_S (As := [.int x1]) (rest := []) X hW hml hl.1 (c_X5_checkBalanced l g hDW hst  _ mm (.inr ()) e1) ⟨mw_772, kw_X5_checkBalanced⟩ ⟨⟨rfl, rfl⟩, ko_X5_checkBalanced, ⟨Nat.le_of_ble_eq_true rfl, Nat.le_of_ble_eq_true rfl⟩⟩ rfl rfl (Nat.le_of_ble_eq_true rfl) dX5_balance_1 ⟨Nat.le_of_ble_eq_true rfl, Nat.le_of_ble_eq_true rfl⟩) (fun H locs hW => ?_)
  refine lv_aload_n hx hb dX5_balance_4 rfl (lv_at hl 0 rfl) ?_
  refine gf_12_3 X hW (by decide) mw_254 dX5_balance_5 ?_
  refine lv_aload_n hx hb dX5_balance_8 rfl (lv_at hl 0 rfl) ?_
  refine gf_12_1 X hW (by decide) mw_252 dX5_balance_9 ?_
  refine lv_iload_n hx hb dX5_balance_12 rfl (lv_at hl 1 rfl) ?_
  obtain ⟨r6, m7, e5, hf⟩ := bn2_ex hf
  refine k_i X hW (k_V (As := [.ref (ad g 0 0), .int x1]) (rest := []) X hW hml hl.1 (c_X0_spread l g hDW 0 (by decide) _ mm _ _ e5) (r_recv X hW 13 0 (by decide) (by decide) rfl rfl) ⟨mw_590, kw_X0_spread⟩ ⟨⟨rfl, rfl⟩, ko_X0_spread, ⟨Nat.le_of_ble_eq_true rfl, Nat.le_of_ble_eq_true rfl⟩⟩ rfl rfl (Nat.le_of_ble_eq_true rfl) dX5_balance_13 ⟨Nat.le_of_ble_eq_true rfl, Nat.le_of_ble_eq_true rfl⟩) (fun H locs hW => ?_)
  refine lv_istore_n (lv' := [(2, .int r6), (0, .ref (ad g 12 0)), (1, .int x1)]) hx hb dX5_balance_16 rfl hl (by decide) rfl (fun ls hl => ?_)
  refine lv_iload_n hx hb dX5_balance_17 rfl (lv_at hl 0 rfl) ?_
  refine lv_if_ne (tgt := 31) hx hb dX5_balance_18 (by decide) (fun c11 => ?_) (fun c11 => ?_)
  · replace hf := ite_f hf c11
    refine lv_aload_n hx hb dX5_balance_31 rfl (lv_at hl 1 rfl) ?_
    obtain ⟨m10, e8, hf⟩ := bnd_ex hf
    refine k_v X hW (k_V (As := []) (rest := []) X hW hml hl.1 (c_X5_saveState l g hDW   m7 _ e8) (r_recv X hW 12 0 (by decide) (by decide) rfl rfl) ⟨mw_724, kw_X5_saveState⟩ ⟨⟨rfl, rfl⟩, ko_X5_saveState, ⟨Nat.le_of_ble_eq_true rfl, Nat.le_of_ble_eq_true rfl⟩⟩ rfl rfl (Nat.le_of_ble_eq_true rfl) dX5_balance_32 ⟨Nat.le_of_ble_eq_true rfl, Nat.le_of_ble_eq_true rfl⟩) (fun H locs hW => ?_)
    refine lv_iconst (v := 0) hx hb dX5_balance_35 (by decide) ?_
    refine lv_istore_n (lv' := [(3, .int 0), (2, .int r6), (0, .ref (ad g 12 0)), (1, .int x1)]) hx hb dX5_balance_36 rfl hl (by decide) rfl (fun ls hl => ?_)
    exact P_37 _ _ _ _ _ _ _ hW (lv_sub hl [2, 1, 0] rfl) hf
  · replace hf := ite_t hf c11
    obtain ⟨ho, hm⟩ := prinj hf
    exact x_ISE X (hW.same hm.symm) hst (hl.1.trans hml.symm) X.2.2.2.2.2.2.1.2.2.2.1.2.2.2.2.2.2.2.1 dX5_balance_21 dX5_balance_24 dX5_balance_25 dX5_balance_27 dX5_balance_30 hxt (Nat.le_of_ble_eq_true rfl) (Nat.le_of_ble_eq_true rfl) (Nat.le_of_ble_eq_true rfl) (Nat.le_of_ble_eq_true rfl) ho.symm (Nat.le_of_ble_eq_true rfl) (Nat.le_of_ble_eq_true rfl)
set_option maxRecDepth 100000 in
set_option maxHeartbeats 4000000 in
theorem c_X5_checkSetting (l : Launch) (g : gG) (hDW : DW g) (hst : l.stackTraces = false) (x0 : Int32) (mm : gM) (o : String ⊕ Unit) (hf : fX5_checkSetting x0 = some o) : vx_Met l yX5_checkSetting (Cond.code yX5_checkSetting cX5_checkSetting 1 none :: ALLW) rm_X5_checkSetting (CPre g mm [.int x0]) (XV g mm o) (XX g mm o) 1 6 (gA g) := by
  refine vx_ofW (cc := cX5_checkSetting) (maxL := 1) (ret := none) (by decide) rfl ?_
  intro p e s m args below meth c s₁ B hml hxt hv
  obtain ⟨ha, hFx, hP0, hlo⟩ := hv
  have X : Cx g p s m args c meth RX5 cX5_checkSetting := Cx_of hDW hFx hlo B
  have hx := X.1
  have hb := X.2.1
  have hr := B.returns
  have hlocks := X.2.2.2.2.2.2.2
  have hW : Wd g mm s s.heap [] := ⟨hP0, va_S.rf⟩
  rw [ha, lg_entry_eq]
  have hl := lv_entry ([.int x0] : List Value) (n := 1) (Nat.le_of_ble_eq_true rfl)
  generalize (lg_sl ([.int x0] : List Value) ++ List.replicate (1 - (lg_sl ([.int x0] : List Value)).length) Slot.unset).toArray = ls at hl ⊢
  have hl : lv_has ls 1 [(0, .int x0)] := hl
  rw [← ha]
  show W p l e rm_X5_checkSetting s m args below meth c s.heap [] 0 0 (vx_MQ below (XV g mm o) (XX g mm o) args s 1 6 (gA g)) (F0 m 0 ls [])
  have P_9 : ∀ (H : Heap) (locs : List Loc) (ls : Array Slot), Wd g mm s H locs → lv_has ls 1 [] → jX5_checkSetting_9 = some o → W p l e rm_X5_checkSetting s m args below meth c H locs 0 0 (vx_MQ below (XV g mm o) (XX g mm o) args s 1 6 (gA g)) (F0 m 9 ls []) := by
    intro  H locs ls hW hl hf
    unfold jX5_checkSetting_9 at hf
    have ho := someinj hf
    exact x_IOBW X hW hst (hl.1.trans hml.symm) X.2.2.2.2.2.2.1.2.2.2.1.2.2.2.2.2.2.2.2.1 dX5_checkSetting_9 dX5_checkSetting_12 dX5_checkSetting_13 dX5_checkSetting_16 dX5_checkSetting_19 hxt (Nat.le_of_ble_eq_true rfl) (Nat.le_of_ble_eq_true rfl) (Nat.le_of_ble_eq_true rfl) (Nat.le_of_ble_eq_true rfl) ho.symm (Nat.le_of_ble_eq_true rfl) (Nat.le_of_ble_eq_true rfl)
  unfold fX5_checkSetting at hf
  refine lv_iload_n hx hb dX5_checkSetting_0 rfl (lv_at hl 0 rfl) ?_
  refine lv_if_lt (tgt := 9) hx hb dX5_checkSetting_1 (by decide) (fun c2 => ?_) (fun c2 => ?_)
  · replace hf := ite_t hf c2
    exact P_9  _ _ _ hW (lv_sub hl [] rfl) hf
  · replace hf := ite_f hf c2
    refine lv_iload_n hx hb dX5_checkSetting_4 rfl (lv_at hl 0 rfl) ?_
    refine lv_iconst (v := 4) hx hb dX5_checkSetting_5 (by decide) ?_
    refine lv_icmp_lt (tgt := 20) hx hb dX5_checkSetting_6 (by decide) (fun c1 => ?_) (fun c1 => ?_)
    · replace hf := ite_t hf c1
      have ho := someinj hf
      refine vx_ret ?_
      refine W.widen (k := 1) (n := 6) (Nat.le_of_ble_eq_true rfl) (Nat.le_of_ble_eq_true rfl) ?_
      exact e_xv X hr hW ho.symm dX5_checkSetting_20
    · replace hf := ite_f hf c1
      exact P_9  _ _ _ hW (lv_sub hl [] rfl) hf
set_option maxRecDepth 100000 in
set_option maxHeartbeats 4000000 in
theorem c_X5_set (l : Launch) (g : gG) (hDW : DW g) (hst : l.stackTraces = false) (x1 : Int32) (x2 : Int32) (mm : gM) (o : String ⊕ Int32) (mZ : gM) (hf : fX5_set x1 x2 mm = some (o, mZ)) : vx_Met l yX5_set (Cond.code yX5_set cX5_set 4 (some .int) :: ALLW) rm_X5_set (CPre g mm [.ref (ad g 12 0), .int x1, .int x2]) (XQ g mZ o) (XX g mZ o) 2 12 (gA g) := by
  refine vx_ofW (cc := cX5_set) (maxL := 4) (ret := (some .int)) (by decide) rfl ?_
  intro p e s m args below meth c s₁ B hml hxt hv
  obtain ⟨ha, hFx, hP0, hlo⟩ := hv
  have X : Cx g p s m args c meth RX5 cX5_set := Cx_of hDW hFx hlo B
  have hx := X.1
  have hb := X.2.1
  have hr := B.returns
  have hlocks := X.2.2.2.2.2.2.2
  have hW : Wd g mm s s.heap [] := ⟨hP0, va_S.rf⟩
  rw [ha, lg_entry_eq]
  have hl := lv_entry ([.ref (ad g 12 0), .int x1, .int x2] : List Value) (n := 4) (Nat.le_of_ble_eq_true rfl)
  generalize (lg_sl ([.ref (ad g 12 0), .int x1, .int x2] : List Value) ++ List.replicate (4 - (lg_sl ([.ref (ad g 12 0), .int x1, .int x2] : List Value)).length) Slot.unset).toArray = ls at hl ⊢
  have hl : lv_has ls 4 [(0, .ref (ad g 12 0)), (1, .int x1), (2, .int x2)] := hl
  rw [← ha]
  show W p l e rm_X5_set s m args below meth c s.heap [] 0 0 (vx_MQ below (XQ g mZ o) (XX g mZ o) args s 2 12 (gA g)) (F0 m 0 ls [])
  have P_22 : ∀ (mm : gM) (H : Heap) (locs : List Loc) (ls : Array Slot), Wd g mm s H locs → lv_has ls 4 [] → jX5_set_22 mm = some (o, mZ) → W p l e rm_X5_set s m args below meth c H locs 1 6 (vx_MQ below (XQ g mZ o) (XX g mZ o) args s 2 12 (gA g)) (F0 m 22 ls []) := by
    intro mm H locs ls hW hl hf
    unfold jX5_set_22 at hf
    obtain ⟨ho, hm⟩ := prinj hf
    exact x_IAE X (hW.same hm.symm) hst (hl.1.trans hml.symm) X.2.2.2.2.2.2.1.2.2.2.1.2.2.2.2.2.2.2.2.2.1 dX5_set_22 dX5_set_25 dX5_set_26 dX5_set_28 dX5_set_31 hxt (Nat.le_of_ble_eq_true rfl) (Nat.le_of_ble_eq_true rfl) (Nat.le_of_ble_eq_true rfl) (Nat.le_of_ble_eq_true rfl) ho.symm (Nat.le_of_ble_eq_true rfl) (Nat.le_of_ble_eq_true rfl)
  unfold fX5_set at hf
  refine lv_iload_n hx hb dX5_set_0 rfl (lv_at hl 1 rfl) ?_
  rcases bx_ex hf with ⟨E_, e1, hf⟩ | ⟨⟨⟩, e1, hf⟩
  · refine k_xv_x X hW (kx_S (As := [.int x1]) (rest := []) X hW hml hl.1 (c_X5_checkSetting l g hDW hst  _ mm (.inl E_) e1) ⟨mw_799, kw_X5_checkSetting⟩ ⟨⟨rfl, rfl⟩, ko_X5_checkSetting, ⟨Nat.le_of_ble_eq_true rfl, Nat.le_of_ble_eq_true rfl⟩⟩ rfl rfl (Nat.le_of_ble_eq_true rfl) dX5_set_1 ⟨Nat.le_of_ble_eq_true rfl, Nat.le_of_ble_eq_true rfl⟩) (fun ce q9 H locs hW hq hv hcl => ?_)
    obtain ⟨ho, hm⟩ := prinj hf
    exact vx_out (fun x h => (hxt x h).elim) hlocks hq hv hcl (fun t ht _ => xx_of (hW.same hm.symm) ht ho.symm) hW.2.2.2 (Nat.le_of_ble_eq_true rfl) (Nat.le_of_ble_eq_true rfl)
  refine k_xv_r X hW (kx_S (As := [.int x1]) (rest := []) X hW hml hl.1 (c_X5_checkSetting l g hDW hst  _ mm (.inr ()) e1) ⟨mw_799, kw_X5_checkSetting⟩ ⟨⟨rfl, rfl⟩, ko_X5_checkSetting, ⟨Nat.le_of_ble_eq_true rfl, Nat.le_of_ble_eq_true rfl⟩⟩ rfl rfl (Nat.le_of_ble_eq_true rfl) dX5_set_1 ⟨Nat.le_of_ble_eq_true rfl, Nat.le_of_ble_eq_true rfl⟩) (fun H locs hW => ?_)
  refine lv_iload_n hx hb dX5_set_4 rfl (lv_at hl 2 rfl) ?_
  refine r_gs2 X hW mw_803 dX5_set_5 ?_
  refine lv_iload_n hx hb dX5_set_8 rfl (lv_at hl 1 rfl) ?_
  obtain ⟨b5, hf⟩ := chk_ex hf
  refine r_ti2 X hW b5 dX5_set_9 ?_
  refine lv_icmp_lt (tgt := 22) hx hb dX5_set_10 (by decide) (fun c16 => ?_) (fun c16 => ?_)
  · replace hf := ite_t hf c16
    exact P_22 _ _ _ _ hW (lv_sub hl [] rfl) hf
  · replace hf := ite_f hf c16
    refine lv_iload_n hx hb dX5_set_13 rfl (lv_at hl 2 rfl) ?_
    refine r_gs3 X hW mw_805 dX5_set_14 ?_
    refine lv_iload_n hx hb dX5_set_17 rfl (lv_at hl 1 rfl) ?_
    obtain ⟨b6, hf⟩ := chk_ex hf
    refine r_ti3 X hW b6 dX5_set_18 ?_
    refine lv_icmp_le (tgt := 32) hx hb dX5_set_19 (by decide) (fun c15 => ?_) (fun c15 => ?_)
    · replace hf := ite_t hf c15
      refine lv_aload_n hx hb dX5_set_32 rfl (lv_at hl 0 rfl) ?_
      obtain ⟨m9, e7, hf⟩ := bnd_ex hf
      refine k_v X hW (k_V (As := []) (rest := []) X hW hml hl.1 (c_X5_saveState l g hDW   mm _ e7) (r_recv X hW 12 0 (by decide) (by decide) rfl rfl) ⟨mw_724, kw_X5_saveState⟩ ⟨⟨rfl, rfl⟩, ko_X5_saveState, ⟨Nat.le_of_ble_eq_true rfl, Nat.le_of_ble_eq_true rfl⟩⟩ rfl rfl (Nat.le_of_ble_eq_true rfl) dX5_set_33 ⟨Nat.le_of_ble_eq_true rfl, Nat.le_of_ble_eq_true rfl⟩) (fun H locs hW => ?_)
      refine lv_aload_n hx hb dX5_set_36 rfl (lv_at hl 0 rfl) ?_
      refine gf_12_1 X hW (by decide) mw_252 dX5_set_37 ?_
      refine gf_0_4 X hW (by decide) mw_127 dX5_set_40 ?_
      refine lv_iload_n hx hb dX5_set_43 rfl (lv_at hl 1 rfl) ?_
      obtain ⟨b10, hf⟩ := chk_ex hf
      refine r_iald X hW 5 0 (by decide) (by decide) rfl b10 dX5_set_44 ?_
      obtain ⟨v11, ex, hf⟩ := wth_ex hf
      refine lv_nm ex ?_
      clear ex
      refine lv_istore_n (lv' := [(3, .int v11), (0, .ref (ad g 12 0)), (1, .int x1), (2, .int x2)]) hx hb dX5_set_45 rfl hl (by decide) rfl (fun ls hl => ?_)
      refine lv_aload_n hx hb dX5_set_46 rfl (lv_at hl 1 rfl) ?_
      refine gf_12_1 X hW (by decide) mw_252 dX5_set_47 ?_
      refine gf_0_4 X hW (by decide) mw_127 dX5_set_50 ?_
      refine lv_iload_n hx hb dX5_set_53 rfl (lv_at hl 2 rfl) ?_
      refine lv_iload_n hx hb dX5_set_54 rfl (lv_at hl 3 rfl) ?_
      obtain ⟨b12, hf⟩ := chk_ex hf
      obtain ⟨m13, ex, hf⟩ := wth_ex hf
      refine r_iast X hW 5 0 (by decide) (by decide) (fun _ => rfl) b12 dX5_set_55 (fun H locs hW => ?_)
      replace hW := hW.same ex
      clear ex
      refine lv_aload_n hx hb dX5_set_56 rfl (lv_at hl 1 rfl) ?_
      refine gf_12_1 X hW (by decide) mw_252 dX5_set_57 ?_
      refine lv_iconst (v := 0) hx hb dX5_set_60 (by decide) ?_
      obtain ⟨m14, ex, hf⟩ := wth_ex hf
      refine pf_0_8 X hW (by decide) mw_136 dX5_set_61 (fun H locs hW => ?_)
      replace hW := hW.same ex
      clear ex
      refine lv_iload_n hx hb dX5_set_64 rfl (lv_at hl 0 rfl) ?_
      obtain ⟨ho, hm⟩ := prinj hf
      replace hW := hW.same hm.symm
      refine vx_ret ?_
      refine W.widen (k := 2) (n := 12) (Nat.le_of_ble_eq_true rfl) (Nat.le_of_ble_eq_true rfl) ?_
      exact e_xi X hr hW ho.symm dX5_set_65
    · replace hf := ite_f hf c15
      exact P_22 _ _ _ _ hW (lv_sub hl [] rfl) hf
set_option maxRecDepth 100000 in
set_option maxHeartbeats 4000000 in
theorem c_X5_pass (l : Launch) (g : gG) (hDW : DW g) (hst : l.stackTraces = false) (x1 : Int32) (mm : gM) (o : String ⊕ Int32) (mZ : gM) (hf : fX5_pass x1 mm = some (o, mZ)) : vx_Met l yX5_pass (Cond.code yX5_pass cX5_pass 4 (some .int) :: ALLW) rm_X5_pass (CPre g mm [.ref (ad g 12 0), .int x1]) (XQ g mZ o) (XX g mZ o) 1 6 (gA g) := by
  refine vx_ofW (cc := cX5_pass) (maxL := 4) (ret := (some .int)) (by decide) rfl ?_
  intro p e s m args below meth c s₁ B hml hxt hv
  obtain ⟨ha, hFx, hP0, hlo⟩ := hv
  have X : Cx g p s m args c meth RX5 cX5_pass := Cx_of hDW hFx hlo B
  have hx := X.1
  have hb := X.2.1
  have hr := B.returns
  have hlocks := X.2.2.2.2.2.2.2
  have hW : Wd g mm s s.heap [] := ⟨hP0, va_S.rf⟩
  rw [ha, lg_entry_eq]
  have hl := lv_entry ([.ref (ad g 12 0), .int x1] : List Value) (n := 4) (Nat.le_of_ble_eq_true rfl)
  generalize (lg_sl ([.ref (ad g 12 0), .int x1] : List Value) ++ List.replicate (4 - (lg_sl ([.ref (ad g 12 0), .int x1] : List Value)).length) Slot.unset).toArray = ls at hl ⊢
  have hl : lv_has ls 4 [(0, .ref (ad g 12 0)), (1, .int x1)] := hl
  rw [← ha]
  show W p l e rm_X5_pass s m args below meth c s.heap [] 0 0 (vx_MQ below (XQ g mZ o) (XX g mZ o) args s 1 6 (gA g)) (F0 m 0 ls [])
  have P_12 : ∀ (mm : gM) (H : Heap) (locs : List Loc) (ls : Array Slot), Wd g mm s H locs → lv_has ls 4 [] → jX5_pass_12 mm = some (o, mZ) → W p l e rm_X5_pass s m args below meth c H locs 0 0 (vx_MQ below (XQ g mZ o) (XX g mZ o) args s 1 6 (gA g)) (F0 m 12 ls []) := by
    intro mm H locs ls hW hl hf
    unfold jX5_pass_12 at hf
    obtain ⟨ho, hm⟩ := prinj hf
    exact x_IAE X (hW.same hm.symm) hst (hl.1.trans hml.symm) X.2.2.2.2.2.2.1.2.2.2.1.2.2.2.2.2.2.2.2.2.2.1 dX5_pass_12 dX5_pass_15 dX5_pass_16 dX5_pass_18 dX5_pass_21 hxt (Nat.le_of_ble_eq_true rfl) (Nat.le_of_ble_eq_true rfl) (Nat.le_of_ble_eq_true rfl) (Nat.le_of_ble_eq_true rfl) ho.symm (Nat.le_of_ble_eq_true rfl) (Nat.le_of_ble_eq_true rfl)
  unfold fX5_pass at hf
  refine lv_iload_n hx hb dX5_pass_0 rfl (lv_at hl 1 rfl) ?_
  refine lv_iconst (v := 1) hx hb dX5_pass_1 (by decide) ?_
  refine lv_icmp_lt (tgt := 12) hx hb dX5_pass_2 (by decide) (fun c19 => ?_) (fun c19 => ?_)
  · replace hf := ite_t hf c19
    exact P_12 _ _ _ _ hW (lv_sub hl [] rfl) hf
  · replace hf := ite_f hf c19
    refine lv_iload_n hx hb dX5_pass_5 rfl (lv_at hl 1 rfl) ?_
    refine lv_sipush (v := 200) hx hb dX5_pass_6 (by decide) ?_
    refine lv_icmp_le (tgt := 22) hx hb dX5_pass_9 (by decide) (fun c18 => ?_) (fun c18 => ?_)
    · replace hf := ite_t hf c18
      refine lv_aload_n hx hb dX5_pass_22 rfl (lv_at hl 0 rfl) ?_
      refine gf_12_1 X hW (by decide) mw_252 dX5_pass_23 ?_
      obtain ⟨r2, e1, hf⟩ := bnd_ex hf
      refine k_i X hW (k_V (As := []) (rest := []) X hW hml hl.1 (c_X2_roundTicks l g hDW 0 (by decide)  mm _ e1) (r_recv X hW 0 0 (by decide) (by decide) rfl rfl) ⟨mw_496, kw_X2_roundTicks⟩ ⟨⟨rfl, rfl⟩, ko_X2_roundTicks, ⟨Nat.le_of_ble_eq_true rfl, Nat.le_of_ble_eq_true rfl⟩⟩ rfl rfl (Nat.le_of_ble_eq_true rfl) dX5_pass_26 ⟨Nat.le_of_ble_eq_true rfl, Nat.le_of_ble_eq_true rfl⟩) (fun H locs hW => ?_)
      refine lv_istore_n (lv' := [(2, .int r2), (0, .ref (ad g 12 0)), (1, .int x1)]) hx hb dX5_pass_29 rfl hl (by decide) rfl (fun ls hl => ?_)
      refine lv_iload_n hx hb dX5_pass_30 rfl (lv_at hl 0 rfl) ?_
      refine lv_iconst (v := 1) hx hb dX5_pass_31 (by decide) ?_
      refine lv_icmp_ge (tgt := 45) hx hb dX5_pass_32 (by decide) (fun c17 => ?_) (fun c17 => ?_)
      · replace hf := ite_t hf c17
        refine lv_aload_n hx hb dX5_pass_45 rfl (lv_at hl 1 rfl) ?_
        refine gf_12_1 X hW (by decide) mw_252 dX5_pass_46 ?_
        refine gf_0_7 X hW (by decide) mw_134 dX5_pass_49 ?_
        refine lv_iload_n hx hb dX5_pass_52 rfl (lv_at hl 2 rfl) ?_
        refine lv_iadd hx hb dX5_pass_53 ?_
        refine lv_ldc hx hb X.2.2.1 (X.2.2.2.1 _ mw_817) dX5_pass_54 ?_
        refine lv_icmp_le (tgt := 69) hx hb dX5_pass_56 (by decide) (fun c16 => ?_) (fun c16 => ?_)
        · replace hf := ite_t hf c16
          refine lv_aload_n hx hb dX5_pass_69 rfl (lv_at hl 1 rfl) ?_
          obtain ⟨m6, e4, hf⟩ := bnd_ex hf
          refine k_v X hW (k_V (As := []) (rest := []) X hW hml hl.1 (c_X5_saveState l g hDW   mm _ e4) (r_recv X hW 12 0 (by decide) (by decide) rfl rfl) ⟨mw_724, kw_X5_saveState⟩ ⟨⟨rfl, rfl⟩, ko_X5_saveState, ⟨Nat.le_of_ble_eq_true rfl, Nat.le_of_ble_eq_true rfl⟩⟩ rfl rfl (Nat.le_of_ble_eq_true rfl) dX5_pass_70 ⟨Nat.le_of_ble_eq_true rfl, Nat.le_of_ble_eq_true rfl⟩) (fun H locs hW => ?_)
          refine lv_aload_n hx hb dX5_pass_73 rfl (lv_at hl 1 rfl) ?_
          refine lv_iload_n hx hb dX5_pass_74 rfl (lv_at hl 2 rfl) ?_
          obtain ⟨m9, e7, hf⟩ := bnd_ex hf
          refine k_v X hW (k_V (As := [.int x1]) (rest := []) X hW hml hl.1 (c_X5_fadeAndLight l g hDW  _ m6 _ e7) (r_recv X hW 12 0 (by decide) (by decide) rfl rfl) ⟨mw_819, kw_X5_fadeAndLight⟩ ⟨⟨rfl, rfl⟩, ko_X5_fadeAndLight, ⟨Nat.le_of_ble_eq_true rfl, Nat.le_of_ble_eq_true rfl⟩⟩ rfl rfl (Nat.le_of_ble_eq_true rfl) dX5_pass_75 ⟨Nat.le_of_ble_eq_true rfl, Nat.le_of_ble_eq_true rfl⟩) (fun H locs hW => ?_)
          refine lv_aload_n hx hb dX5_pass_78 rfl (lv_at hl 1 rfl) ?_
          refine gf_12_1 X hW (by decide) mw_252 dX5_pass_79 ?_
          refine gf_0_8 X hW (by decide) mw_136 dX5_pass_82 ?_
          refine lv_iload_n hx hb dX5_pass_85 rfl (lv_at hl 2 rfl) ?_
          refine lv_iadd hx hb dX5_pass_86 ?_
          refine lv_iload_n hx hb dX5_pass_87 rfl (lv_at hl 0 rfl) ?_
          obtain ⟨b10, hf⟩ := chk_ex hf
          refine lv_idiv hx hb dX5_pass_88 b10 ?_
          obtain ⟨v11, ex, hf⟩ := wth_ex hf
          refine lv_nm ex ?_
          clear ex
          refine lv_istore_n (lv' := [(3, .int v11), (2, .int r2), (0, .ref (ad g 12 0)), (1, .int x1)]) hx hb dX5_pass_89 rfl hl (by decide) rfl (fun ls hl => ?_)
          refine lv_aload_n hx hb dX5_pass_90 rfl (lv_at hl 2 rfl) ?_
          refine gf_12_1 X hW (by decide) mw_252 dX5_pass_91 ?_
          refine lv_aload_n hx hb dX5_pass_94 rfl (lv_at hl 2 rfl) ?_
          refine gf_12_1 X hW (by decide) mw_252 dX5_pass_95 ?_
          refine gf_0_8 X hW (by decide) mw_136 dX5_pass_98 ?_
          refine lv_iload_n hx hb dX5_pass_101 rfl (lv_at hl 3 rfl) ?_
          refine lv_iadd hx hb dX5_pass_102 ?_
          refine lv_iload_n hx hb dX5_pass_103 rfl (lv_at hl 1 rfl) ?_
          obtain ⟨b12, hf⟩ := chk_ex hf
          refine r_irem hx hb dX5_pass_104 b12 ?_
          obtain ⟨m13, ex, hf⟩ := wth_ex hf
          refine pf_0_8 X hW (by decide) mw_136 dX5_pass_105 (fun H locs hW => ?_)
          replace hW := hW.same ex
          clear ex
          refine lv_aload_n hx hb dX5_pass_108 rfl (lv_at hl 2 rfl) ?_
          refine gf_12_1 X hW (by decide) mw_252 dX5_pass_109 ?_
          refine lv_dup hx hb dX5_pass_112 rfl ?_
          refine gf_0_7 X hW (by decide) mw_134 dX5_pass_113 ?_
          refine lv_iload_n hx hb dX5_pass_116 rfl (lv_at hl 3 rfl) ?_
          refine lv_iadd hx hb dX5_pass_117 ?_
          obtain ⟨m14, ex, hf⟩ := wth_ex hf
          refine pf_0_7 X hW (by decide) mw_134 dX5_pass_118 (fun H locs hW => ?_)
          replace hW := hW.same ex
          clear ex
          refine lv_aload_n hx hb dX5_pass_121 rfl (lv_at hl 2 rfl) ?_
          refine gf_12_1 X hW (by decide) mw_252 dX5_pass_122 ?_
          refine lv_dup hx hb dX5_pass_125 rfl ?_
          refine gf_0_9 X hW (by decide) mw_138 dX5_pass_126 ?_
          refine lv_iload_n hx hb dX5_pass_129 rfl (lv_at hl 0 rfl) ?_
          refine lv_iadd hx hb dX5_pass_130 ?_
          obtain ⟨m15, ex, hf⟩ := wth_ex hf
          refine pf_0_9 X hW (by decide) mw_138 dX5_pass_131 (fun H locs hW => ?_)
          replace hW := hW.same ex
          clear ex
          refine lv_iload_n hx hb dX5_pass_134 rfl (lv_at hl 0 rfl) ?_
          obtain ⟨ho, hm⟩ := prinj hf
          replace hW := hW.same hm.symm
          refine vx_ret ?_
          refine W.widen (k := 1) (n := 6) (Nat.le_of_ble_eq_true rfl) (Nat.le_of_ble_eq_true rfl) ?_
          exact e_xi X hr hW ho.symm dX5_pass_135
        · replace hf := ite_f hf c16
          obtain ⟨ho, hm⟩ := prinj hf
          exact x_ISE X (hW.same hm.symm) hst (hl.1.trans hml.symm) X.2.2.2.2.2.2.1.2.2.2.1.2.2.2.2.2.2.2.2.2.2.2.2.1 dX5_pass_59 dX5_pass_62 dX5_pass_63 dX5_pass_65 dX5_pass_68 hxt (Nat.le_of_ble_eq_true rfl) (Nat.le_of_ble_eq_true rfl) (Nat.le_of_ble_eq_true rfl) (Nat.le_of_ble_eq_true rfl) ho.symm (Nat.le_of_ble_eq_true rfl) (Nat.le_of_ble_eq_true rfl)
      · replace hf := ite_f hf c17
        obtain ⟨ho, hm⟩ := prinj hf
        exact x_ISE X (hW.same hm.symm) hst (hl.1.trans hml.symm) X.2.2.2.2.2.2.1.2.2.2.1.2.2.2.2.2.2.2.2.2.2.2.1 dX5_pass_35 dX5_pass_38 dX5_pass_39 dX5_pass_41 dX5_pass_44 hxt (Nat.le_of_ble_eq_true rfl) (Nat.le_of_ble_eq_true rfl) (Nat.le_of_ble_eq_true rfl) (Nat.le_of_ble_eq_true rfl) ho.symm (Nat.le_of_ble_eq_true rfl) (Nat.le_of_ble_eq_true rfl)
    · replace hf := ite_f hf c18
      exact P_12 _ _ _ _ hW (lv_sub hl [] rfl) hf
set_option maxRecDepth 100000 in
set_option maxHeartbeats 4000000 in
theorem c_X5_append (l : Launch) (g : gG) (hDW : DW g) (hst : l.stackTraces = false) (x1 : Int32) (mm : gM) (o : String ⊕ Int32) (mZ : gM) (hf : fX5_append x1 mm = some (o, mZ)) : vx_Met l yX5_append (Cond.code yX5_append cX5_append 2 (some .int) :: ALLW) rm_X5_append (CPre g mm [.ref (ad g 12 0), .int x1]) (XQ g mZ o) (XX g mZ o) 1 6 (gA g) := by
  refine vx_ofW (cc := cX5_append) (maxL := 2) (ret := (some .int)) (by decide) rfl ?_
  intro p e s m args below meth c s₁ B hml hxt hv
  obtain ⟨ha, hFx, hP0, hlo⟩ := hv
  have X : Cx g p s m args c meth RX5 cX5_append := Cx_of hDW hFx hlo B
  have hx := X.1
  have hb := X.2.1
  have hr := B.returns
  have hlocks := X.2.2.2.2.2.2.2
  have hW : Wd g mm s s.heap [] := ⟨hP0, va_S.rf⟩
  rw [ha, lg_entry_eq]
  have hl := lv_entry ([.ref (ad g 12 0), .int x1] : List Value) (n := 2) (Nat.le_of_ble_eq_true rfl)
  generalize (lg_sl ([.ref (ad g 12 0), .int x1] : List Value) ++ List.replicate (2 - (lg_sl ([.ref (ad g 12 0), .int x1] : List Value)).length) Slot.unset).toArray = ls at hl ⊢
  have hl : lv_has ls 2 [(0, .ref (ad g 12 0)), (1, .int x1)] := hl
  rw [← ha]
  show W p l e rm_X5_append s m args below meth c s.heap [] 0 0 (vx_MQ below (XQ g mZ o) (XX g mZ o) args s 1 6 (gA g)) (F0 m 0 ls [])
  have P_12 : ∀ (mm : gM) (H : Heap) (locs : List Loc) (ls : Array Slot), Wd g mm s H locs → lv_has ls 2 [] → jX5_append_12 mm = some (o, mZ) → W p l e rm_X5_append s m args below meth c H locs 0 0 (vx_MQ below (XQ g mZ o) (XX g mZ o) args s 1 6 (gA g)) (F0 m 12 ls []) := by
    intro mm H locs ls hW hl hf
    unfold jX5_append_12 at hf
    obtain ⟨ho, hm⟩ := prinj hf
    exact x_IAE X (hW.same hm.symm) hst (hl.1.trans hml.symm) X.2.2.2.2.2.2.1.2.2.2.1.2.2.2.2.2.2.2.2.2.2.2.2.2.1 dX5_append_12 dX5_append_15 dX5_append_16 dX5_append_18 dX5_append_21 hxt (Nat.le_of_ble_eq_true rfl) (Nat.le_of_ble_eq_true rfl) (Nat.le_of_ble_eq_true rfl) (Nat.le_of_ble_eq_true rfl) ho.symm (Nat.le_of_ble_eq_true rfl) (Nat.le_of_ble_eq_true rfl)
  unfold fX5_append at hf
  refine lv_iload_n hx hb dX5_append_0 rfl (lv_at hl 1 rfl) ?_
  refine lv_bipush (v := 33) hx hb dX5_append_1 (by decide) ?_
  refine lv_icmp_lt (tgt := 12) hx hb dX5_append_3 (by decide) (fun c6 => ?_) (fun c6 => ?_)
  · replace hf := ite_t hf c6
    exact P_12 _ _ _ _ hW (lv_sub hl [] rfl) hf
  · replace hf := ite_f hf c6
    refine lv_iload_n hx hb dX5_append_6 rfl (lv_at hl 1 rfl) ?_
    refine lv_bipush (v := 126) hx hb dX5_append_7 (by decide) ?_
    refine lv_icmp_le (tgt := 22) hx hb dX5_append_9 (by decide) (fun c5 => ?_) (fun c5 => ?_)
    · replace hf := ite_t hf c5
      refine lv_aload_n hx hb dX5_append_22 rfl (lv_at hl 0 rfl) ?_
      refine gf_12_5 X hW (by decide) mw_256 dX5_append_23 ?_
      refine gf_16_1 X hW (by decide) mw_241 dX5_append_26 ?_
      refine lv_bipush (v := 12) hx hb dX5_append_29 (by decide) ?_
      refine lv_icmp_lt (tgt := 44) hx hb dX5_append_31 (by decide) (fun c4 => ?_) (fun c4 => ?_)
      · replace hf := ite_t hf c4
        refine lv_aload_n hx hb dX5_append_44 rfl (lv_at hl 0 rfl) ?_
        refine gf_12_5 X hW (by decide) mw_256 dX5_append_45 ?_
        refine lv_iload_n hx hb dX5_append_48 rfl (lv_at hl 1 rfl) ?_
        refine lv_i2c hx hb dX5_append_49 (v := i2c x1) rfl ?_
        obtain ⟨m3, e1, hf⟩ := bnd_ex hf
        refine k_v X hW (k_V (As := [.int (i2c x1)]) (rest := []) X hW hml hl.1 (c_X3_put l g hDW  _ mm _ e1) (r_recv X hW 16 0 (by decide) (by decide) rfl rfl) ⟨mw_486, kw_X3_put⟩ ⟨⟨rfl, rfl⟩, ko_X3_put, ⟨Nat.le_of_ble_eq_true rfl, Nat.le_of_ble_eq_true rfl⟩⟩ rfl rfl (Nat.le_of_ble_eq_true rfl) dX5_append_50 ⟨Nat.le_of_ble_eq_true rfl, Nat.le_of_ble_eq_true rfl⟩) (fun H locs hW => ?_)
        refine lv_aload_n hx hb dX5_append_53 rfl (lv_at hl 0 rfl) ?_
        refine gf_12_5 X hW (by decide) mw_256 dX5_append_54 ?_
        refine gf_16_1 X hW (by decide) mw_241 dX5_append_57 ?_
        obtain ⟨ho, hm⟩ := prinj hf
        replace hW := hW.same hm.symm
        refine vx_ret ?_
        refine W.widen (k := 1) (n := 6) (Nat.le_of_ble_eq_true rfl) (Nat.le_of_ble_eq_true rfl) ?_
        exact e_xi X hr hW ho.symm dX5_append_60
      · replace hf := ite_f hf c4
        obtain ⟨ho, hm⟩ := prinj hf
        exact x_ISE X (hW.same hm.symm) hst (hl.1.trans hml.symm) X.2.2.2.2.2.2.1.2.2.2.1.2.2.2.2.2.2.2.2.2.2.2.2.2.2.1 dX5_append_34 dX5_append_37 dX5_append_38 dX5_append_40 dX5_append_43 hxt (Nat.le_of_ble_eq_true rfl) (Nat.le_of_ble_eq_true rfl) (Nat.le_of_ble_eq_true rfl) (Nat.le_of_ble_eq_true rfl) ho.symm (Nat.le_of_ble_eq_true rfl) (Nat.le_of_ble_eq_true rfl)
    · replace hf := ite_f hf c5
      exact P_12 _ _ _ _ hW (lv_sub hl [] rfl) hf
set_option maxRecDepth 100000 in
set_option maxHeartbeats 4000000 in
theorem c_X5_load (l : Launch) (g : gG) (hDW : DW g) (hst : l.stackTraces = false) (mm : gM) (o : String ⊕ Int32) (mZ : gM) (hf : fX5_load mm = some (o, mZ)) : vx_Met l yX5_load (Cond.code yX5_load cX5_load 2 (some .int) :: ALLW) rm_X5_load (CPre g mm [.ref (ad g 12 0)]) (XQ g mZ o) (XX g mZ o) 1 6 (gA g) := by
  refine vx_ofW (cc := cX5_load) (maxL := 2) (ret := (some .int)) (by decide) rfl ?_
  intro p e s m args below meth c s₁ B hml hxt hv
  obtain ⟨ha, hFx, hP0, hlo⟩ := hv
  have X : Cx g p s m args c meth RX5 cX5_load := Cx_of hDW hFx hlo B
  have hx := X.1
  have hb := X.2.1
  have hr := B.returns
  have hlocks := X.2.2.2.2.2.2.2
  have hW : Wd g mm s s.heap [] := ⟨hP0, va_S.rf⟩
  rw [ha, lg_entry_eq]
  have hl := lv_entry ([.ref (ad g 12 0)] : List Value) (n := 2) (Nat.le_of_ble_eq_true rfl)
  generalize (lg_sl ([.ref (ad g 12 0)] : List Value) ++ List.replicate (2 - (lg_sl ([.ref (ad g 12 0)] : List Value)).length) Slot.unset).toArray = ls at hl ⊢
  have hl : lv_has ls 2 [(0, .ref (ad g 12 0))] := hl
  rw [← ha]
  show W p l e rm_X5_load s m args below meth c s.heap [] 0 0 (vx_MQ below (XQ g mZ o) (XX g mZ o) args s 1 6 (gA g)) (F0 m 0 ls [])
  have P_27 : ∀ (mm : gM) (H : Heap) (locs : List Loc) (ls : Array Slot), Wd g mm s H locs → lv_has ls 2 [] → jX5_load_27 mm = some (o, mZ) → W p l e rm_X5_load s m args below meth c H locs 0 0 (vx_MQ below (XQ g mZ o) (XX g mZ o) args s 1 6 (gA g)) (F0 m 27 ls []) := by
    intro mm H locs ls hW hl hf
    unfold jX5_load_27 at hf
    obtain ⟨ho, hm⟩ := prinj hf
    exact x_IAE X (hW.same hm.symm) hst (hl.1.trans hml.symm) X.2.2.2.2.2.2.1.2.2.2.1.2.2.2.2.2.2.2.2.2.2.2.2.2.2.2.1 dX5_load_27 dX5_load_30 dX5_load_31 dX5_load_33 dX5_load_36 hxt (Nat.le_of_ble_eq_true rfl) (Nat.le_of_ble_eq_true rfl) (Nat.le_of_ble_eq_true rfl) (Nat.le_of_ble_eq_true rfl) ho.symm (Nat.le_of_ble_eq_true rfl) (Nat.le_of_ble_eq_true rfl)
  unfold fX5_load at hf
  refine lv_aload_n hx hb dX5_load_0 rfl (lv_at hl 0 rfl) ?_
  refine gf_12_5 X hW (by decide) mw_256 dX5_load_1 ?_
  refine gf_16_1 X hW (by decide) mw_241 dX5_load_4 ?_
  refine lv_if_eq (tgt := 27) hx hb dX5_load_7 (by decide) (fun c12 => ?_) (fun c12 => ?_)
  · replace hf := ite_t hf c12
    exact P_27 _ _ _ _ hW (lv_sub hl [] rfl) hf
  · replace hf := ite_f hf c12
    refine lv_aload_n hx hb dX5_load_10 rfl (lv_at hl 0 rfl) ?_
    refine gf_12_5 X hW (by decide) mw_256 dX5_load_11 ?_
    obtain ⟨r2, e1, hf⟩ := bnd_ex hf
    refine k_i X hW (k_V (As := []) (rest := []) X hW hml hl.1 (c_X3_errorAt l g hDW   mm _ e1) (r_recv X hW 16 0 (by decide) (by decide) rfl rfl) ⟨mw_293, kw_X3_errorAt⟩ ⟨⟨rfl, rfl⟩, ko_X3_errorAt, ⟨Nat.le_of_ble_eq_true rfl, Nat.le_of_ble_eq_true rfl⟩⟩ rfl rfl (Nat.le_of_ble_eq_true rfl) dX5_load_14 ⟨Nat.le_of_ble_eq_true rfl, Nat.le_of_ble_eq_true rfl⟩) (fun H locs hW => ?_)
    refine lv_aload_n hx hb dX5_load_17 rfl (lv_at hl 0 rfl) ?_
    refine gf_12_5 X hW (by decide) mw_256 dX5_load_18 ?_
    refine gf_16_1 X hW (by decide) mw_241 dX5_load_21 ?_
    refine lv_icmp_ge (tgt := 37) hx hb dX5_load_24 (by decide) (fun c11 => ?_) (fun c11 => ?_)
    · replace hf := ite_t hf c11
      refine lv_aload_n hx hb dX5_load_37 rfl (lv_at hl 0 rfl) ?_
      obtain ⟨m6, e4, hf⟩ := bnd_ex hf
      refine k_v X hW (k_V (As := []) (rest := []) X hW hml hl.1 (c_X5_saveState l g hDW   mm _ e4) (r_recv X hW 12 0 (by decide) (by decide) rfl rfl) ⟨mw_724, kw_X5_saveState⟩ ⟨⟨rfl, rfl⟩, ko_X5_saveState, ⟨Nat.le_of_ble_eq_true rfl, Nat.le_of_ble_eq_true rfl⟩⟩ rfl rfl (Nat.le_of_ble_eq_true rfl) dX5_load_38 ⟨Nat.le_of_ble_eq_true rfl, Nat.le_of_ble_eq_true rfl⟩) (fun H locs hW => ?_)
      refine lv_aload_n hx hb dX5_load_41 rfl (lv_at hl 0 rfl) ?_
      refine gf_12_5 X hW (by decide) mw_256 dX5_load_42 ?_
      refine lv_aload_n hx hb dX5_load_45 rfl (lv_at hl 0 rfl) ?_
      refine gf_12_1 X hW (by decide) mw_252 dX5_load_46 ?_
      obtain ⟨r8, m9, e7, hf⟩ := bn2_ex hf
      refine k_i X hW (k_V (As := [.ref (ad g 0 0)]) (rest := []) X hW hml hl.1 (c_X3_putOn l g hDW 0 (by decide)  m6 _ _ e7) (r_recv X hW 16 0 (by decide) (by decide) rfl rfl) ⟨mw_846, kw_X3_putOn⟩ ⟨⟨rfl, rfl⟩, ko_X3_putOn, ⟨Nat.le_of_ble_eq_true rfl, Nat.le_of_ble_eq_true rfl⟩⟩ rfl rfl (Nat.le_of_ble_eq_true rfl) dX5_load_49 ⟨Nat.le_of_ble_eq_true rfl, Nat.le_of_ble_eq_true rfl⟩) (fun H locs hW => ?_)
      refine lv_istore_n (lv' := [(1, .int r8), (0, .ref (ad g 12 0))]) hx hb dX5_load_52 rfl hl (by decide) rfl (fun ls hl => ?_)
      refine lv_aload_n hx hb dX5_load_53 rfl (lv_at hl 1 rfl) ?_
      refine gf_12_5 X hW (by decide) mw_256 dX5_load_54 ?_
      refine lv_iconst (v := 0) hx hb dX5_load_57 (by decide) ?_
      obtain ⟨m10, ex, hf⟩ := wth_ex hf
      refine pf_16_1 X hW (by decide) mw_241 dX5_load_58 (fun H locs hW => ?_)
      replace hW := hW.same ex
      clear ex
      refine lv_iload_n hx hb dX5_load_61 rfl (lv_at hl 0 rfl) ?_
      obtain ⟨ho, hm⟩ := prinj hf
      replace hW := hW.same hm.symm
      refine vx_ret ?_
      refine W.widen (k := 1) (n := 6) (Nat.le_of_ble_eq_true rfl) (Nat.le_of_ble_eq_true rfl) ?_
      exact e_xi X hr hW ho.symm dX5_load_62
    · replace hf := ite_f hf c11
      exact P_27 _ _ _ _ hW (lv_sub hl [] rfl) hf
set_option maxRecDepth 100000 in
set_option maxHeartbeats 4000000 in
theorem c_X5_checkSnapshot (l : Launch) (g : gG) (hDW : DW g) (hst : l.stackTraces = false) (x0 : Int32) (mm : gM) (o : String ⊕ Unit) (hf : fX5_checkSnapshot x0 = some o) : vx_Met l yX5_checkSnapshot (Cond.code yX5_checkSnapshot cX5_checkSnapshot 1 none :: ALLW) rm_X5_checkSnapshot (CPre g mm [.int x0]) (XV g mm o) (XX g mm o) 1 6 (gA g) := by
  refine vx_ofW (cc := cX5_checkSnapshot) (maxL := 1) (ret := none) (by decide) rfl ?_
  intro p e s m args below meth c s₁ B hml hxt hv
  obtain ⟨ha, hFx, hP0, hlo⟩ := hv
  have X : Cx g p s m args c meth RX5 cX5_checkSnapshot := Cx_of hDW hFx hlo B
  have hx := X.1
  have hb := X.2.1
  have hr := B.returns
  have hlocks := X.2.2.2.2.2.2.2
  have hW : Wd g mm s s.heap [] := ⟨hP0, va_S.rf⟩
  rw [ha, lg_entry_eq]
  have hl := lv_entry ([.int x0] : List Value) (n := 1) (Nat.le_of_ble_eq_true rfl)
  generalize (lg_sl ([.int x0] : List Value) ++ List.replicate (1 - (lg_sl ([.int x0] : List Value)).length) Slot.unset).toArray = ls at hl ⊢
  have hl : lv_has ls 1 [(0, .int x0)] := hl
  rw [← ha]
  show W p l e rm_X5_checkSnapshot s m args below meth c s.heap [] 0 0 (vx_MQ below (XV g mm o) (XX g mm o) args s 1 6 (gA g)) (F0 m 0 ls [])
  have P_9 : ∀ (H : Heap) (locs : List Loc) (ls : Array Slot), Wd g mm s H locs → lv_has ls 1 [] → jX5_checkSnapshot_9 = some o → W p l e rm_X5_checkSnapshot s m args below meth c H locs 0 0 (vx_MQ below (XV g mm o) (XX g mm o) args s 1 6 (gA g)) (F0 m 9 ls []) := by
    intro  H locs ls hW hl hf
    unfold jX5_checkSnapshot_9 at hf
    have ho := someinj hf
    exact x_IAEW X hW hst (hl.1.trans hml.symm) X.2.2.2.2.2.2.1.2.2.2.1.2.2.2.2.2.2.2.2.2.2.2.2.2.2.2.2.1 dX5_checkSnapshot_9 dX5_checkSnapshot_12 dX5_checkSnapshot_13 dX5_checkSnapshot_16 dX5_checkSnapshot_19 hxt (Nat.le_of_ble_eq_true rfl) (Nat.le_of_ble_eq_true rfl) (Nat.le_of_ble_eq_true rfl) (Nat.le_of_ble_eq_true rfl) ho.symm (Nat.le_of_ble_eq_true rfl) (Nat.le_of_ble_eq_true rfl)
  unfold fX5_checkSnapshot at hf
  refine lv_iload_n hx hb dX5_checkSnapshot_0 rfl (lv_at hl 0 rfl) ?_
  refine lv_if_lt (tgt := 9) hx hb dX5_checkSnapshot_1 (by decide) (fun c2 => ?_) (fun c2 => ?_)
  · replace hf := ite_t hf c2
    exact P_9  _ _ _ hW (lv_sub hl [] rfl) hf
  · replace hf := ite_f hf c2
    refine lv_iload_n hx hb dX5_checkSnapshot_4 rfl (lv_at hl 0 rfl) ?_
    refine lv_iconst (v := 2) hx hb dX5_checkSnapshot_5 (by decide) ?_
    refine lv_icmp_lt (tgt := 20) hx hb dX5_checkSnapshot_6 (by decide) (fun c1 => ?_) (fun c1 => ?_)
    · replace hf := ite_t hf c1
      have ho := someinj hf
      refine vx_ret ?_
      refine W.widen (k := 1) (n := 6) (Nat.le_of_ble_eq_true rfl) (Nat.le_of_ble_eq_true rfl) ?_
      exact e_xv X hr hW ho.symm dX5_checkSnapshot_20
    · replace hf := ite_f hf c1
      exact P_9  _ _ _ hW (lv_sub hl [] rfl) hf
set_option maxRecDepth 100000 in
set_option maxHeartbeats 4000000 in
theorem c_X5_keep (l : Launch) (g : gG) (hDW : DW g) (hst : l.stackTraces = false) (x1 : Int32) (mm : gM) (o : String ⊕ Int32) (mZ : gM) (hf : fX5_keep x1 mm = some (o, mZ)) : vx_Met l yX5_keep (Cond.code yX5_keep cX5_keep 2 (some .int) :: ALLW) rm_X5_keep (CPre g mm [.ref (ad g 12 0), .int x1]) (XQ g mZ o) (XX g mZ o) 1 6 (gA g) := by
  refine vx_ofW (cc := cX5_keep) (maxL := 2) (ret := (some .int)) (by decide) rfl ?_
  intro p e s m args below meth c s₁ B hml hxt hv
  obtain ⟨ha, hFx, hP0, hlo⟩ := hv
  have X : Cx g p s m args c meth RX5 cX5_keep := Cx_of hDW hFx hlo B
  have hx := X.1
  have hb := X.2.1
  have hr := B.returns
  have hlocks := X.2.2.2.2.2.2.2
  have hW : Wd g mm s s.heap [] := ⟨hP0, va_S.rf⟩
  rw [ha, lg_entry_eq]
  have hl := lv_entry ([.ref (ad g 12 0), .int x1] : List Value) (n := 2) (Nat.le_of_ble_eq_true rfl)
  generalize (lg_sl ([.ref (ad g 12 0), .int x1] : List Value) ++ List.replicate (2 - (lg_sl ([.ref (ad g 12 0), .int x1] : List Value)).length) Slot.unset).toArray = ls at hl ⊢
  have hl : lv_has ls 2 [(0, .ref (ad g 12 0)), (1, .int x1)] := hl
  rw [← ha]
  show W p l e rm_X5_keep s m args below meth c s.heap [] 0 0 (vx_MQ below (XQ g mZ o) (XX g mZ o) args s 1 6 (gA g)) (F0 m 0 ls [])
  unfold fX5_keep at hf
  refine lv_iload_n hx hb dX5_keep_0 rfl (lv_at hl 1 rfl) ?_
  rcases bx_ex hf with ⟨E_, e1, hf⟩ | ⟨⟨⟩, e1, hf⟩
  · refine k_xv_x X hW (kx_S (As := [.int x1]) (rest := []) X hW hml hl.1 (c_X5_checkSnapshot l g hDW hst  _ mm (.inl E_) e1) ⟨mw_857, kw_X5_checkSnapshot⟩ ⟨⟨rfl, rfl⟩, ko_X5_checkSnapshot, ⟨Nat.le_of_ble_eq_true rfl, Nat.le_of_ble_eq_true rfl⟩⟩ rfl rfl (Nat.le_of_ble_eq_true rfl) dX5_keep_1 ⟨Nat.le_of_ble_eq_true rfl, Nat.le_of_ble_eq_true rfl⟩) (fun ce q9 H locs hW hq hv hcl => ?_)
    obtain ⟨ho, hm⟩ := prinj hf
    exact vx_out (fun x h => (hxt x h).elim) hlocks hq hv hcl (fun t ht _ => xx_of (hW.same hm.symm) ht ho.symm) hW.2.2.2 (Nat.le_of_ble_eq_true rfl) (Nat.le_of_ble_eq_true rfl)
  refine k_xv_r X hW (kx_S (As := [.int x1]) (rest := []) X hW hml hl.1 (c_X5_checkSnapshot l g hDW hst  _ mm (.inr ()) e1) ⟨mw_857, kw_X5_checkSnapshot⟩ ⟨⟨rfl, rfl⟩, ko_X5_checkSnapshot, ⟨Nat.le_of_ble_eq_true rfl, Nat.le_of_ble_eq_true rfl⟩⟩ rfl rfl (Nat.le_of_ble_eq_true rfl) dX5_keep_1 ⟨Nat.le_of_ble_eq_true rfl, Nat.le_of_ble_eq_true rfl⟩) (fun H locs hW => ?_)
  refine lv_aload_n hx hb dX5_keep_4 rfl (lv_at hl 0 rfl) ?_
  refine gf_12_6 X hW (by decide) mw_257 dX5_keep_5 ?_
  refine lv_iload_n hx hb dX5_keep_8 rfl (lv_at hl 1 rfl) ?_
  obtain ⟨b5, hf⟩ := chk_ex hf
  refine r_aald_18 X hW b5 dX5_keep_9 ?_
  have q6 : 2 + x1.toNatClampNeg < 10 := by have := vp_in_lt b5; omega
  refine lv_aload_n hx hb dX5_keep_10 rfl (lv_at hl 0 rfl) ?_
  refine gf_12_1 X hW (by decide) mw_252 dX5_keep_11 ?_
  obtain ⟨m9, e7, hf⟩ := bnd_ex hf
  refine k_v X hW (k_V (As := [.ref (ad g 0 0)]) (rest := []) X hW hml hl.1 (c_X2_copyFrom l g hDW (2 + x1.toNatClampNeg) q6 0 (by decide)  mm _ e7) (r_recv X hW 0 (2 + x1.toNatClampNeg) (by decide) q6 rfl rfl) ⟨mw_612, kw_X2_copyFrom⟩ ⟨⟨rfl, rfl⟩, ko_X2_copyFrom, ⟨Nat.le_of_ble_eq_true rfl, Nat.le_of_ble_eq_true rfl⟩⟩ rfl rfl (Nat.le_of_ble_eq_true rfl) dX5_keep_14 ⟨Nat.le_of_ble_eq_true rfl, Nat.le_of_ble_eq_true rfl⟩) (fun H locs hW => ?_)
  refine lv_aload_n hx hb dX5_keep_17 rfl (lv_at hl 0 rfl) ?_
  refine gf_12_7 X hW (by decide) mw_258 dX5_keep_18 ?_
  refine lv_iload_n hx hb dX5_keep_21 rfl (lv_at hl 1 rfl) ?_
  refine lv_iconst (v := 1) hx hb dX5_keep_22 (by decide) ?_
  obtain ⟨b10, hf⟩ := chk_ex hf
  obtain ⟨m11, ex, hf⟩ := wth_ex hf
  refine r_zast X hW 19 0 (by decide) (by decide) (fun _ => rfl) b10 dX5_keep_23 (fun H locs hW => ?_)
  replace hW := hW.same ex
  clear ex
  refine lv_aload_n hx hb dX5_keep_24 rfl (lv_at hl 0 rfl) ?_
  refine gf_12_1 X hW (by decide) mw_252 dX5_keep_25 ?_
  refine gf_0_7 X hW (by decide) mw_134 dX5_keep_28 ?_
  obtain ⟨ho, hm⟩ := prinj hf
  replace hW := hW.same hm.symm
  refine vx_ret ?_
  refine W.widen (k := 1) (n := 6) (Nat.le_of_ble_eq_true rfl) (Nat.le_of_ble_eq_true rfl) ?_
  exact e_xi X hr hW ho.symm dX5_keep_31
set_option maxRecDepth 100000 in
set_option maxHeartbeats 4000000 in
theorem c_X5_goBack (l : Launch) (g : gG) (hDW : DW g) (hst : l.stackTraces = false) (x1 : Int32) (mm : gM) (o : String ⊕ Int32) (mZ : gM) (hf : fX5_goBack x1 mm = some (o, mZ)) : vx_Met l yX5_goBack (Cond.code yX5_goBack cX5_goBack 2 (some .int) :: ALLW) rm_X5_goBack (CPre g mm [.ref (ad g 12 0), .int x1]) (XQ g mZ o) (XX g mZ o) 2 12 (gA g) := by
  refine vx_ofW (cc := cX5_goBack) (maxL := 2) (ret := (some .int)) (by decide) rfl ?_
  intro p e s m args below meth c s₁ B hml hxt hv
  obtain ⟨ha, hFx, hP0, hlo⟩ := hv
  have X : Cx g p s m args c meth RX5 cX5_goBack := Cx_of hDW hFx hlo B
  have hx := X.1
  have hb := X.2.1
  have hr := B.returns
  have hlocks := X.2.2.2.2.2.2.2
  have hW : Wd g mm s s.heap [] := ⟨hP0, va_S.rf⟩
  rw [ha, lg_entry_eq]
  have hl := lv_entry ([.ref (ad g 12 0), .int x1] : List Value) (n := 2) (Nat.le_of_ble_eq_true rfl)
  generalize (lg_sl ([.ref (ad g 12 0), .int x1] : List Value) ++ List.replicate (2 - (lg_sl ([.ref (ad g 12 0), .int x1] : List Value)).length) Slot.unset).toArray = ls at hl ⊢
  have hl : lv_has ls 2 [(0, .ref (ad g 12 0)), (1, .int x1)] := hl
  rw [← ha]
  show W p l e rm_X5_goBack s m args below meth c s.heap [] 0 0 (vx_MQ below (XQ g mZ o) (XX g mZ o) args s 2 12 (gA g)) (F0 m 0 ls [])
  unfold fX5_goBack at hf
  refine lv_iload_n hx hb dX5_goBack_0 rfl (lv_at hl 1 rfl) ?_
  rcases bx_ex hf with ⟨E_, e1, hf⟩ | ⟨⟨⟩, e1, hf⟩
  · refine k_xv_x X hW (kx_S (As := [.int x1]) (rest := []) X hW hml hl.1 (c_X5_checkSnapshot l g hDW hst  _ mm (.inl E_) e1) ⟨mw_857, kw_X5_checkSnapshot⟩ ⟨⟨rfl, rfl⟩, ko_X5_checkSnapshot, ⟨Nat.le_of_ble_eq_true rfl, Nat.le_of_ble_eq_true rfl⟩⟩ rfl rfl (Nat.le_of_ble_eq_true rfl) dX5_goBack_1 ⟨Nat.le_of_ble_eq_true rfl, Nat.le_of_ble_eq_true rfl⟩) (fun ce q9 H locs hW hq hv hcl => ?_)
    obtain ⟨ho, hm⟩ := prinj hf
    exact vx_out (fun x h => (hxt x h).elim) hlocks hq hv hcl (fun t ht _ => xx_of (hW.same hm.symm) ht ho.symm) hW.2.2.2 (Nat.le_of_ble_eq_true rfl) (Nat.le_of_ble_eq_true rfl)
  refine k_xv_r X hW (kx_S (As := [.int x1]) (rest := []) X hW hml hl.1 (c_X5_checkSnapshot l g hDW hst  _ mm (.inr ()) e1) ⟨mw_857, kw_X5_checkSnapshot⟩ ⟨⟨rfl, rfl⟩, ko_X5_checkSnapshot, ⟨Nat.le_of_ble_eq_true rfl, Nat.le_of_ble_eq_true rfl⟩⟩ rfl rfl (Nat.le_of_ble_eq_true rfl) dX5_goBack_1 ⟨Nat.le_of_ble_eq_true rfl, Nat.le_of_ble_eq_true rfl⟩) (fun H locs hW => ?_)
  refine lv_aload_n hx hb dX5_goBack_4 rfl (lv_at hl 0 rfl) ?_
  refine gf_12_7 X hW (by decide) mw_258 dX5_goBack_5 ?_
  refine lv_iload_n hx hb dX5_goBack_8 rfl (lv_at hl 1 rfl) ?_
  obtain ⟨b5, hf⟩ := chk_ex hf
  refine r_zald X hW 19 0 (by decide) (by decide) rfl b5 dX5_goBack_9 ?_
  refine lv_if_ne (tgt := 23) hx hb dX5_goBack_10 (by decide) (fun c14 => ?_) (fun c14 => ?_)
  · replace hf := ite_f hf c14
    refine lv_aload_n hx hb dX5_goBack_23 rfl (lv_at hl 0 rfl) ?_
    obtain ⟨m8, e6, hf⟩ := bnd_ex hf
    refine k_v X hW (k_V (As := []) (rest := []) X hW hml hl.1 (c_X5_saveState l g hDW   mm _ e6) (r_recv X hW 12 0 (by decide) (by decide) rfl rfl) ⟨mw_724, kw_X5_saveState⟩ ⟨⟨rfl, rfl⟩, ko_X5_saveState, ⟨Nat.le_of_ble_eq_true rfl, Nat.le_of_ble_eq_true rfl⟩⟩ rfl rfl (Nat.le_of_ble_eq_true rfl) dX5_goBack_24 ⟨Nat.le_of_ble_eq_true rfl, Nat.le_of_ble_eq_true rfl⟩) (fun H locs hW => ?_)
    refine lv_aload_n hx hb dX5_goBack_27 rfl (lv_at hl 0 rfl) ?_
    refine gf_12_1 X hW (by decide) mw_252 dX5_goBack_28 ?_
    refine lv_aload_n hx hb dX5_goBack_31 rfl (lv_at hl 0 rfl) ?_
    refine gf_12_6 X hW (by decide) mw_257 dX5_goBack_32 ?_
    refine lv_iload_n hx hb dX5_goBack_35 rfl (lv_at hl 1 rfl) ?_
    obtain ⟨b9, hf⟩ := chk_ex hf
    refine r_aald_18 X hW b9 dX5_goBack_36 ?_
    have q10 : 2 + x1.toNatClampNeg < 10 := by have := vp_in_lt b9; omega
    obtain ⟨m13, e11, hf⟩ := bnd_ex hf
    refine k_v X hW (k_V (As := [.ref (ad g 0 (2 + x1.toNatClampNeg))]) (rest := []) X hW hml hl.1 (c_X2_copyFrom l g hDW 0 (by decide) (2 + x1.toNatClampNeg) q10  m8 _ e11) (r_recv X hW 0 0 (by decide) (by decide) rfl rfl) ⟨mw_612, kw_X2_copyFrom⟩ ⟨⟨rfl, rfl⟩, ko_X2_copyFrom, ⟨Nat.le_of_ble_eq_true rfl, Nat.le_of_ble_eq_true rfl⟩⟩ rfl rfl (Nat.le_of_ble_eq_true rfl) dX5_goBack_37 ⟨Nat.le_of_ble_eq_true rfl, Nat.le_of_ble_eq_true rfl⟩) (fun H locs hW => ?_)
    refine lv_aload_n hx hb dX5_goBack_40 rfl (lv_at hl 0 rfl) ?_
    refine gf_12_1 X hW (by decide) mw_252 dX5_goBack_41 ?_
    refine gf_0_7 X hW (by decide) mw_134 dX5_goBack_44 ?_
    obtain ⟨ho, hm⟩ := prinj hf
    replace hW := hW.same hm.symm
    refine vx_ret ?_
    refine W.widen (k := 2) (n := 12) (Nat.le_of_ble_eq_true rfl) (Nat.le_of_ble_eq_true rfl) ?_
    exact e_xi X hr hW ho.symm dX5_goBack_47
  · replace hf := ite_t hf c14
    obtain ⟨ho, hm⟩ := prinj hf
    exact x_ISE X (hW.same hm.symm) hst (hl.1.trans hml.symm) X.2.2.2.2.2.2.1.2.2.2.1.2.2.2.2.2.2.2.2.2.2.2.2.2.2.2.2.2.1 dX5_goBack_13 dX5_goBack_16 dX5_goBack_17 dX5_goBack_19 dX5_goBack_22 hxt (Nat.le_of_ble_eq_true rfl) (Nat.le_of_ble_eq_true rfl) (Nat.le_of_ble_eq_true rfl) (Nat.le_of_ble_eq_true rfl) ho.symm (Nat.le_of_ble_eq_true rfl) (Nat.le_of_ble_eq_true rfl)
set_option maxRecDepth 100000 in
set_option maxHeartbeats 4000000 in
theorem c_X5_undo (l : Launch) (g : gG) (hDW : DW g) (hst : l.stackTraces = false) (mm : gM) (o : String ⊕ Int32) (mZ : gM) (hf : fX5_undo mm = some (o, mZ)) : vx_Met l yX5_undo (Cond.code yX5_undo cX5_undo 1 (some .int) :: ALLW) rm_X5_undo (CPre g mm [.ref (ad g 12 0)]) (XQ g mZ o) (XX g mZ o) 1 6 (gA g) := by
  refine vx_ofW (cc := cX5_undo) (maxL := 1) (ret := (some .int)) (by decide) rfl ?_
  intro p e s m args below meth c s₁ B hml hxt hv
  obtain ⟨ha, hFx, hP0, hlo⟩ := hv
  have X : Cx g p s m args c meth RX5 cX5_undo := Cx_of hDW hFx hlo B
  have hx := X.1
  have hb := X.2.1
  have hr := B.returns
  have hlocks := X.2.2.2.2.2.2.2
  have hW : Wd g mm s s.heap [] := ⟨hP0, va_S.rf⟩
  rw [ha, lg_entry_eq]
  have hl := lv_entry ([.ref (ad g 12 0)] : List Value) (n := 1) (Nat.le_of_ble_eq_true rfl)
  generalize (lg_sl ([.ref (ad g 12 0)] : List Value) ++ List.replicate (1 - (lg_sl ([.ref (ad g 12 0)] : List Value)).length) Slot.unset).toArray = ls at hl ⊢
  have hl : lv_has ls 1 [(0, .ref (ad g 12 0))] := hl
  rw [← ha]
  show W p l e rm_X5_undo s m args below meth c s.heap [] 0 0 (vx_MQ below (XQ g mZ o) (XX g mZ o) args s 1 6 (gA g)) (F0 m 0 ls [])
  have P_36 : ∀ (s1 : Int32) (mm : gM) (H : Heap) (locs : List Loc) (ls : Array Slot), Wd g mm s H locs → lv_has ls 1 [(0, .ref (ad g 12 0))] → jX5_undo_36 s1 mm = some (o, mZ) → W p l e rm_X5_undo s m args below meth c H locs 0 0 (vx_MQ below (XQ g mZ o) (XX g mZ o) args s 1 6 (gA g)) (F0 m 36 ls [.int s1, .ref (ad g 12 0)]) := by
    intro s1 mm H locs ls hW hl hf
    unfold jX5_undo_36 at hf
    obtain ⟨m3, ex, hf⟩ := wth_ex hf
    refine pf_12_10 X hW (by decide) mw_261 dX5_undo_36 (fun H locs hW => ?_)
    replace hW := hW.same ex
    clear ex
    refine lv_aload_n hx hb dX5_undo_39 rfl (lv_at hl 0 rfl) ?_
    refine lv_dup hx hb dX5_undo_40 rfl ?_
    refine gf_12_9 X hW (by decide) mw_260 dX5_undo_41 ?_
    refine lv_iconst (v := 1) hx hb dX5_undo_44 (by decide) ?_
    refine lv_isub hx hb dX5_undo_45 ?_
    obtain ⟨m4, ex, hf⟩ := wth_ex hf
    refine pf_12_9 X hW (by decide) mw_260 dX5_undo_46 (fun H locs hW => ?_)
    replace hW := hW.same ex
    clear ex
    refine lv_aload_n hx hb dX5_undo_49 rfl (lv_at hl 0 rfl) ?_
    refine gf_12_1 X hW (by decide) mw_252 dX5_undo_50 ?_
    refine lv_aload_n hx hb dX5_undo_53 rfl (lv_at hl 0 rfl) ?_
    refine gf_12_8 X hW (by decide) mw_259 dX5_undo_54 ?_
    refine lv_aload_n hx hb dX5_undo_57 rfl (lv_at hl 0 rfl) ?_
    refine gf_12_10 X hW (by decide) mw_261 dX5_undo_58 ?_
    obtain ⟨b5, hf⟩ := chk_ex hf
    refine r_aald_20 X hW b5 dX5_undo_61 ?_
    have q6 : 4 + (gi m4 12 0 10).toNatClampNeg < 10 := by have := vp_in_lt b5; omega
    obtain ⟨m9, e7, hf⟩ := bnd_ex hf
    refine k_v X hW (k_V (As := [.ref (ad g 0 (4 + (gi m4 12 0 10).toNatClampNeg))]) (rest := []) X hW hml hl.1 (c_X2_copyFrom l g hDW 0 (by decide) (4 + (gi m4 12 0 10).toNatClampNeg) q6  m4 _ e7) (r_recv X hW 0 0 (by decide) (by decide) rfl rfl) ⟨mw_612, kw_X2_copyFrom⟩ ⟨⟨rfl, rfl⟩, ko_X2_copyFrom, ⟨Nat.le_of_ble_eq_true rfl, Nat.le_of_ble_eq_true rfl⟩⟩ rfl rfl (Nat.le_of_ble_eq_true rfl) dX5_undo_62 ⟨Nat.le_of_ble_eq_true rfl, Nat.le_of_ble_eq_true rfl⟩) (fun H locs hW => ?_)
    refine lv_aload_n hx hb dX5_undo_65 rfl (lv_at hl 0 rfl) ?_
    refine gf_12_0 X hW (by decide) mw_251 dX5_undo_66 ?_
    obtain ⟨m12, e10, hf⟩ := bnd_ex hf
    refine k_v X hW (k_V (As := []) (rest := []) X hW hml hl.1 (c_X1_forget l g hDW 0 (by decide)  m9 _ e10) (r_recv X hW 6 0 (by decide) (by decide) rfl rfl) ⟨mw_619, kw_X1_forget⟩ ⟨⟨rfl, rfl⟩, ko_X1_forget, ⟨Nat.le_of_ble_eq_true rfl, Nat.le_of_ble_eq_true rfl⟩⟩ rfl rfl (Nat.le_of_ble_eq_true rfl) dX5_undo_69 ⟨Nat.le_of_ble_eq_true rfl, Nat.le_of_ble_eq_true rfl⟩) (fun H locs hW => ?_)
    refine lv_aload_n hx hb dX5_undo_72 rfl (lv_at hl 0 rfl) ?_
    refine gf_12_9 X hW (by decide) mw_260 dX5_undo_73 ?_
    obtain ⟨ho, hm⟩ := prinj hf
    replace hW := hW.same hm.symm
    refine vx_ret ?_
    refine W.widen (k := 1) (n := 6) (Nat.le_of_ble_eq_true rfl) (Nat.le_of_ble_eq_true rfl) ?_
    exact e_xi X hr hW ho.symm dX5_undo_76
  unfold fX5_undo at hf
  refine lv_aload_n hx hb dX5_undo_0 rfl (lv_at hl 0 rfl) ?_
  refine gf_12_9 X hW (by decide) mw_260 dX5_undo_1 ?_
  refine lv_iconst (v := 1) hx hb dX5_undo_4 (by decide) ?_
  refine lv_icmp_ge (tgt := 18) hx hb dX5_undo_5 (by decide) (fun c2 => ?_) (fun c2 => ?_)
  · replace hf := ite_t hf c2
    refine lv_aload_n hx hb dX5_undo_18 rfl (lv_at hl 0 rfl) ?_
    refine lv_aload_n hx hb dX5_undo_19 rfl (lv_at hl 0 rfl) ?_
    refine gf_12_10 X hW (by decide) mw_261 dX5_undo_20 ?_
    refine lv_if_le (tgt := 35) hx hb dX5_undo_23 (by decide) (fun c1 => ?_) (fun c1 => ?_)
    · replace hf := ite_t hf c1
      refine lv_iconst (v := 5) hx hb dX5_undo_35 (by decide) ?_
      exact P_36 _ _ _ _ _ hW (lv_sub hl [0] rfl) hf
    · replace hf := ite_f hf c1
      refine lv_aload_n hx hb dX5_undo_26 rfl (lv_at hl 0 rfl) ?_
      refine gf_12_10 X hW (by decide) mw_261 dX5_undo_27 ?_
      refine lv_iconst (v := 1) hx hb dX5_undo_30 (by decide) ?_
      refine lv_isub hx hb dX5_undo_31 ?_
      refine lv_goto (tgt := 36) hx hb dX5_undo_32 (by decide) ?_
      exact P_36 _ _ _ _ _ hW (lv_sub hl [0] rfl) hf
  · replace hf := ite_f hf c2
    obtain ⟨ho, hm⟩ := prinj hf
    exact x_ISE X (hW.same hm.symm) hst (hl.1.trans hml.symm) X.2.2.2.2.2.2.1.2.2.2.1.2.2.2.2.2.2.2.2.2.2.2.2.2.2.2.2.2.2.1 dX5_undo_8 dX5_undo_11 dX5_undo_12 dX5_undo_14 dX5_undo_17 hxt (Nat.le_of_ble_eq_true rfl) (Nat.le_of_ble_eq_true rfl) (Nat.le_of_ble_eq_true rfl) (Nat.le_of_ble_eq_true rfl) ho.symm (Nat.le_of_ble_eq_true rfl) (Nat.le_of_ble_eq_true rfl)
set_option maxRecDepth 100000 in
set_option maxHeartbeats 4000000 in
theorem c_X5_checkWhat (l : Launch) (g : gG) (hDW : DW g) (hst : l.stackTraces = false) (x0 : Int32) (x1 : Int32) (mm : gM) (o : String ⊕ Unit) (hf : fX5_checkWhat x0 x1 = some o) : vx_Met l yX5_checkWhat (Cond.code yX5_checkWhat cX5_checkWhat 2 none :: ALLW) rm_X5_checkWhat (CPre g mm [.int x0, .int x1]) (XV g mm o) (XX g mm o) 1 6 (gA g) := by
  refine vx_ofW (cc := cX5_checkWhat) (maxL := 2) (ret := none) (by decide) rfl ?_
  intro p e s m args below meth c s₁ B hml hxt hv
  obtain ⟨ha, hFx, hP0, hlo⟩ := hv
  have X : Cx g p s m args c meth RX5 cX5_checkWhat := Cx_of hDW hFx hlo B
  have hx := X.1
  have hb := X.2.1
  have hr := B.returns
  have hlocks := X.2.2.2.2.2.2.2
  have hW : Wd g mm s s.heap [] := ⟨hP0, va_S.rf⟩
  rw [ha, lg_entry_eq]
  have hl := lv_entry ([.int x0, .int x1] : List Value) (n := 2) (Nat.le_of_ble_eq_true rfl)
  generalize (lg_sl ([.int x0, .int x1] : List Value) ++ List.replicate (2 - (lg_sl ([.int x0, .int x1] : List Value)).length) Slot.unset).toArray = ls at hl ⊢
  have hl : lv_has ls 2 [(0, .int x0), (1, .int x1)] := hl
  rw [← ha]
  show W p l e rm_X5_checkWhat s m args below meth c s.heap [] 0 0 (vx_MQ below (XV g mm o) (XX g mm o) args s 1 6 (gA g)) (F0 m 0 ls [])
  have P_9 : ∀ (H : Heap) (locs : List Loc) (ls : Array Slot), Wd g mm s H locs → lv_has ls 2 [] → jX5_checkWhat_9 = some o → W p l e rm_X5_checkWhat s m args below meth c H locs 0 0 (vx_MQ below (XV g mm o) (XX g mm o) args s 1 6 (gA g)) (F0 m 9 ls []) := by
    intro  H locs ls hW hl hf
    unfold jX5_checkWhat_9 at hf
    have ho := someinj hf
    exact x_IAEW X hW hst (hl.1.trans hml.symm) X.2.2.2.2.2.2.1.2.2.2.1.2.2.2.2.2.2.2.2.2.2.2.2.2.2.2.2.2.2.2 dX5_checkWhat_9 dX5_checkWhat_12 dX5_checkWhat_13 dX5_checkWhat_16 dX5_checkWhat_19 hxt (Nat.le_of_ble_eq_true rfl) (Nat.le_of_ble_eq_true rfl) (Nat.le_of_ble_eq_true rfl) (Nat.le_of_ble_eq_true rfl) ho.symm (Nat.le_of_ble_eq_true rfl) (Nat.le_of_ble_eq_true rfl)
  unfold fX5_checkWhat at hf
  refine lv_iload_n hx hb dX5_checkWhat_0 rfl (lv_at hl 0 rfl) ?_
  refine lv_if_lt (tgt := 9) hx hb dX5_checkWhat_1 (by decide) (fun c2 => ?_) (fun c2 => ?_)
  · replace hf := ite_t hf c2
    exact P_9  _ _ _ hW (lv_sub hl [] rfl) hf
  · replace hf := ite_f hf c2
    refine lv_iload_n hx hb dX5_checkWhat_4 rfl (lv_at hl 0 rfl) ?_
    refine lv_iload_n hx hb dX5_checkWhat_5 rfl (lv_at hl 1 rfl) ?_
    refine lv_icmp_lt (tgt := 20) hx hb dX5_checkWhat_6 (by decide) (fun c1 => ?_) (fun c1 => ?_)
    · replace hf := ite_t hf c1
      have ho := someinj hf
      refine vx_ret ?_
      refine W.widen (k := 1) (n := 6) (Nat.le_of_ble_eq_true rfl) (Nat.le_of_ble_eq_true rfl) ?_
      exact e_xv X hr hW ho.symm dX5_checkWhat_20
    · replace hf := ite_f hf c1
      exact P_9  _ _ _ hW (lv_sub hl [] rfl) hf
set_option maxRecDepth 100000 in
set_option maxHeartbeats 4000000 in
theorem c_X5_slotOf (l : Launch) (g : gG) (hDW : DW g) (hst : l.stackTraces = false) (x1 : Int32) (x2 : Int32) (mm : gM) (o : String ⊕ Int32) (mZ : gM) (hf : fX5_slotOf x1 x2 mm = some (o, mZ)) : vx_Met l yX5_slotOf (Cond.code yX5_slotOf cX5_slotOf 3 (some .int) :: ALLW) rm_X5_slotOf (CPre g mm [.ref (ad g 12 0), .int x1, .int x2]) (XQ g mZ o) (XX g mZ o) 2 12 (gA g) := by
  refine vx_ofW (cc := cX5_slotOf) (maxL := 3) (ret := (some .int)) (by decide) rfl ?_
  intro p e s m args below meth c s₁ B hml hxt hv
  obtain ⟨ha, hFx, hP0, hlo⟩ := hv
  have X : Cx g p s m args c meth RX5 cX5_slotOf := Cx_of hDW hFx hlo B
  have hx := X.1
  have hb := X.2.1
  have hr := B.returns
  have hlocks := X.2.2.2.2.2.2.2
  have hW : Wd g mm s s.heap [] := ⟨hP0, va_S.rf⟩
  rw [ha, lg_entry_eq]
  have hl := lv_entry ([.ref (ad g 12 0), .int x1, .int x2] : List Value) (n := 3) (Nat.le_of_ble_eq_true rfl)
  generalize (lg_sl ([.ref (ad g 12 0), .int x1, .int x2] : List Value) ++ List.replicate (3 - (lg_sl ([.ref (ad g 12 0), .int x1, .int x2] : List Value)).length) Slot.unset).toArray = ls at hl ⊢
  have hl : lv_has ls 3 [(0, .ref (ad g 12 0)), (1, .int x1), (2, .int x2)] := hl
  rw [← ha]
  show W p l e rm_X5_slotOf s m args below meth c s.heap [] 0 0 (vx_MQ below (XQ g mZ o) (XX g mZ o) args s 2 12 (gA g)) (F0 m 0 ls [])
  unfold fX5_slotOf at hf
  refine lv_iload_n hx hb dX5_slotOf_0 rfl (lv_at hl 1 rfl) ?_
  rcases bx_ex hf with ⟨E_, e1, hf⟩ | ⟨⟨⟩, e1, hf⟩
  · refine k_xv_x X hW (kx_S (As := [.int x1]) (rest := []) X hW hml hl.1 (c_X5_checkSlot l g hDW hst  _ mm (.inl E_) e1) ⟨mw_638, kw_X5_checkSlot⟩ ⟨⟨rfl, rfl⟩, ko_X5_checkSlot, ⟨Nat.le_of_ble_eq_true rfl, Nat.le_of_ble_eq_true rfl⟩⟩ rfl rfl (Nat.le_of_ble_eq_true rfl) dX5_slotOf_1 ⟨Nat.le_of_ble_eq_true rfl, Nat.le_of_ble_eq_true rfl⟩) (fun ce q9 H locs hW hq hv hcl => ?_)
    obtain ⟨ho, hm⟩ := prinj hf
    exact vx_out (fun x h => (hxt x h).elim) hlocks hq hv hcl (fun t ht _ => xx_of (hW.same hm.symm) ht ho.symm) hW.2.2.2 (Nat.le_of_ble_eq_true rfl) (Nat.le_of_ble_eq_true rfl)
  refine k_xv_r X hW (kx_S (As := [.int x1]) (rest := []) X hW hml hl.1 (c_X5_checkSlot l g hDW hst  _ mm (.inr ()) e1) ⟨mw_638, kw_X5_checkSlot⟩ ⟨⟨rfl, rfl⟩, ko_X5_checkSlot, ⟨Nat.le_of_ble_eq_true rfl, Nat.le_of_ble_eq_true rfl⟩⟩ rfl rfl (Nat.le_of_ble_eq_true rfl) dX5_slotOf_1 ⟨Nat.le_of_ble_eq_true rfl, Nat.le_of_ble_eq_true rfl⟩) (fun H locs hW => ?_)
  refine lv_iload_n hx hb dX5_slotOf_4 rfl (lv_at hl 2 rfl) ?_
  refine lv_bipush (v := 10) hx hb dX5_slotOf_5 (by decide) ?_
  rcases bx_ex hf with ⟨E_, e5, hf⟩ | ⟨⟨⟩, e5, hf⟩
  · refine k_xv_x X hW (kx_S (As := [.int x2, .int 10]) (rest := []) X hW hml hl.1 (c_X5_checkWhat l g hDW hst  _ _ mm (.inl E_) e5) ⟨mw_884, kw_X5_checkWhat⟩ ⟨⟨rfl, rfl⟩, ko_X5_checkWhat, ⟨Nat.le_of_ble_eq_true rfl, Nat.le_of_ble_eq_true rfl⟩⟩ rfl rfl (Nat.le_of_ble_eq_true rfl) dX5_slotOf_7 ⟨Nat.le_of_ble_eq_true rfl, Nat.le_of_ble_eq_true rfl⟩) (fun ce q9 H locs hW hq hv hcl => ?_)
    obtain ⟨ho, hm⟩ := prinj hf
    exact vx_out (fun x h => (hxt x h).elim) hlocks hq hv hcl (fun t ht _ => xx_of (hW.same hm.symm) ht ho.symm) hW.2.2.2 (Nat.le_of_ble_eq_true rfl) (Nat.le_of_ble_eq_true rfl)
  refine k_xv_r X hW (kx_S (As := [.int x2, .int 10]) (rest := []) X hW hml hl.1 (c_X5_checkWhat l g hDW hst  _ _ mm (.inr ()) e5) ⟨mw_884, kw_X5_checkWhat⟩ ⟨⟨rfl, rfl⟩, ko_X5_checkWhat, ⟨Nat.le_of_ble_eq_true rfl, Nat.le_of_ble_eq_true rfl⟩⟩ rfl rfl (Nat.le_of_ble_eq_true rfl) dX5_slotOf_7 ⟨Nat.le_of_ble_eq_true rfl, Nat.le_of_ble_eq_true rfl⟩) (fun H locs hW => ?_)
  refine lv_aload_n hx hb dX5_slotOf_10 rfl (lv_at hl 0 rfl) ?_
  refine lv_iload_n hx hb dX5_slotOf_11 rfl (lv_at hl 1 rfl) ?_
  refine lv_iload_n hx hb dX5_slotOf_12 rfl (lv_at hl 2 rfl) ?_
  obtain ⟨r10, m11, e9, hf⟩ := bn2_ex hf
  refine k_i X hW (k_V (As := [.int x1, .int x2]) (rest := []) X hW hml hl.1 (c_X5_slotProperty l g hDW  _ _ mm _ _ e9) (r_recv X hW 12 0 (by decide) (by decide) rfl rfl) ⟨mw_564, kw_X5_slotProperty⟩ ⟨⟨rfl, rfl⟩, ko_X5_slotProperty, ⟨Nat.le_of_ble_eq_true rfl, Nat.le_of_ble_eq_true rfl⟩⟩ rfl rfl (Nat.le_of_ble_eq_true rfl) dX5_slotOf_13 ⟨Nat.le_of_ble_eq_true rfl, Nat.le_of_ble_eq_true rfl⟩) (fun H locs hW => ?_)
  obtain ⟨ho, hm⟩ := prinj hf
  replace hW := hW.same hm.symm
  refine vx_ret ?_
  refine W.widen (k := 2) (n := 12) (Nat.le_of_ble_eq_true rfl) (Nat.le_of_ble_eq_true rfl) ?_
  exact e_xi X hr hW ho.symm dX5_slotOf_16
set_option maxRecDepth 100000 in
set_option maxHeartbeats 4000000 in
theorem c_X5_segmentOf (l : Launch) (g : gG) (hDW : DW g) (hst : l.stackTraces = false) (x1 : Int32) (x2 : Int32) (x3 : Int32) (mm : gM) (o : String ⊕ Int32) (mZ : gM) (hf : fX5_segmentOf x1 x2 x3 mm = some (o, mZ)) : vx_Met l yX5_segmentOf (Cond.code yX5_segmentOf cX5_segmentOf 4 (some .int) :: ALLW) rm_X5_segmentOf (CPre g mm [.ref (ad g 12 0), .int x1, .int x2, .int x3]) (XQ g mZ o) (XX g mZ o) 3 18 (gA g) := by
  refine vx_ofW (cc := cX5_segmentOf) (maxL := 4) (ret := (some .int)) (by decide) rfl ?_
  intro p e s m args below meth c s₁ B hml hxt hv
  obtain ⟨ha, hFx, hP0, hlo⟩ := hv
  have X : Cx g p s m args c meth RX5 cX5_segmentOf := Cx_of hDW hFx hlo B
  have hx := X.1
  have hb := X.2.1
  have hr := B.returns
  have hlocks := X.2.2.2.2.2.2.2
  have hW : Wd g mm s s.heap [] := ⟨hP0, va_S.rf⟩
  rw [ha, lg_entry_eq]
  have hl := lv_entry ([.ref (ad g 12 0), .int x1, .int x2, .int x3] : List Value) (n := 4) (Nat.le_of_ble_eq_true rfl)
  generalize (lg_sl ([.ref (ad g 12 0), .int x1, .int x2, .int x3] : List Value) ++ List.replicate (4 - (lg_sl ([.ref (ad g 12 0), .int x1, .int x2, .int x3] : List Value)).length) Slot.unset).toArray = ls at hl ⊢
  have hl : lv_has ls 4 [(0, .ref (ad g 12 0)), (1, .int x1), (2, .int x2), (3, .int x3)] := hl
  rw [← ha]
  show W p l e rm_X5_segmentOf s m args below meth c s.heap [] 0 0 (vx_MQ below (XQ g mZ o) (XX g mZ o) args s 3 18 (gA g)) (F0 m 0 ls [])
  unfold fX5_segmentOf at hf
  refine lv_iload_n hx hb dX5_segmentOf_0 rfl (lv_at hl 1 rfl) ?_
  rcases bx_ex hf with ⟨E_, e1, hf⟩ | ⟨⟨⟩, e1, hf⟩
  · refine k_xv_x X hW (kx_S (As := [.int x1]) (rest := []) X hW hml hl.1 (c_X5_checkSlot l g hDW hst  _ mm (.inl E_) e1) ⟨mw_638, kw_X5_checkSlot⟩ ⟨⟨rfl, rfl⟩, ko_X5_checkSlot, ⟨Nat.le_of_ble_eq_true rfl, Nat.le_of_ble_eq_true rfl⟩⟩ rfl rfl (Nat.le_of_ble_eq_true rfl) dX5_segmentOf_1 ⟨Nat.le_of_ble_eq_true rfl, Nat.le_of_ble_eq_true rfl⟩) (fun ce q9 H locs hW hq hv hcl => ?_)
    obtain ⟨ho, hm⟩ := prinj hf
    exact vx_out (fun x h => (hxt x h).elim) hlocks hq hv hcl (fun t ht _ => xx_of (hW.same hm.symm) ht ho.symm) hW.2.2.2 (Nat.le_of_ble_eq_true rfl) (Nat.le_of_ble_eq_true rfl)
  refine k_xv_r X hW (kx_S (As := [.int x1]) (rest := []) X hW hml hl.1 (c_X5_checkSlot l g hDW hst  _ mm (.inr ()) e1) ⟨mw_638, kw_X5_checkSlot⟩ ⟨⟨rfl, rfl⟩, ko_X5_checkSlot, ⟨Nat.le_of_ble_eq_true rfl, Nat.le_of_ble_eq_true rfl⟩⟩ rfl rfl (Nat.le_of_ble_eq_true rfl) dX5_segmentOf_1 ⟨Nat.le_of_ble_eq_true rfl, Nat.le_of_ble_eq_true rfl⟩) (fun H locs hW => ?_)
  refine lv_iload_n hx hb dX5_segmentOf_4 rfl (lv_at hl 2 rfl) ?_
  rcases bx_ex hf with ⟨E_, e5, hf⟩ | ⟨⟨⟩, e5, hf⟩
  · refine k_xv_x X hW (kx_S (As := [.int x2]) (rest := []) X hW hml hl.1 (c_X5_checkSegment l g hDW hst  _ mm (.inl E_) e5) ⟨mw_742, kw_X5_checkSegment⟩ ⟨⟨rfl, rfl⟩, ko_X5_checkSegment, ⟨Nat.le_of_ble_eq_true rfl, Nat.le_of_ble_eq_true rfl⟩⟩ rfl rfl (Nat.le_of_ble_eq_true rfl) dX5_segmentOf_5 ⟨Nat.le_of_ble_eq_true rfl, Nat.le_of_ble_eq_true rfl⟩) (fun ce q9 H locs hW hq hv hcl => ?_)
    obtain ⟨ho, hm⟩ := prinj hf
    exact vx_out (fun x h => (hxt x h).elim) hlocks hq hv hcl (fun t ht _ => xx_of (hW.same hm.symm) ht ho.symm) hW.2.2.2 (Nat.le_of_ble_eq_true rfl) (Nat.le_of_ble_eq_true rfl)
  refine k_xv_r X hW (kx_S (As := [.int x2]) (rest := []) X hW hml hl.1 (c_X5_checkSegment l g hDW hst  _ mm (.inr ()) e5) ⟨mw_742, kw_X5_checkSegment⟩ ⟨⟨rfl, rfl⟩, ko_X5_checkSegment, ⟨Nat.le_of_ble_eq_true rfl, Nat.le_of_ble_eq_true rfl⟩⟩ rfl rfl (Nat.le_of_ble_eq_true rfl) dX5_segmentOf_5 ⟨Nat.le_of_ble_eq_true rfl, Nat.le_of_ble_eq_true rfl⟩) (fun H locs hW => ?_)
  refine lv_iload_n hx hb dX5_segmentOf_8 rfl (lv_at hl 3 rfl) ?_
  refine lv_iconst (v := 4) hx hb dX5_segmentOf_9 (by decide) ?_
  rcases bx_ex hf with ⟨E_, e9, hf⟩ | ⟨⟨⟩, e9, hf⟩
  · refine k_xv_x X hW (kx_S (As := [.int x3, .int 4]) (rest := []) X hW hml hl.1 (c_X5_checkWhat l g hDW hst  _ _ mm (.inl E_) e9) ⟨mw_884, kw_X5_checkWhat⟩ ⟨⟨rfl, rfl⟩, ko_X5_checkWhat, ⟨Nat.le_of_ble_eq_true rfl, Nat.le_of_ble_eq_true rfl⟩⟩ rfl rfl (Nat.le_of_ble_eq_true rfl) dX5_segmentOf_10 ⟨Nat.le_of_ble_eq_true rfl, Nat.le_of_ble_eq_true rfl⟩) (fun ce q9 H locs hW hq hv hcl => ?_)
    obtain ⟨ho, hm⟩ := prinj hf
    exact vx_out (fun x h => (hxt x h).elim) hlocks hq hv hcl (fun t ht _ => xx_of (hW.same hm.symm) ht ho.symm) hW.2.2.2 (Nat.le_of_ble_eq_true rfl) (Nat.le_of_ble_eq_true rfl)
  refine k_xv_r X hW (kx_S (As := [.int x3, .int 4]) (rest := []) X hW hml hl.1 (c_X5_checkWhat l g hDW hst  _ _ mm (.inr ()) e9) ⟨mw_884, kw_X5_checkWhat⟩ ⟨⟨rfl, rfl⟩, ko_X5_checkWhat, ⟨Nat.le_of_ble_eq_true rfl, Nat.le_of_ble_eq_true rfl⟩⟩ rfl rfl (Nat.le_of_ble_eq_true rfl) dX5_segmentOf_10 ⟨Nat.le_of_ble_eq_true rfl, Nat.le_of_ble_eq_true rfl⟩) (fun H locs hW => ?_)
  refine lv_aload_n hx hb dX5_segmentOf_13 rfl (lv_at hl 0 rfl) ?_
  refine lv_iload_n hx hb dX5_segmentOf_14 rfl (lv_at hl 1 rfl) ?_
  refine lv_iload_n hx hb dX5_segmentOf_15 rfl (lv_at hl 2 rfl) ?_
  refine lv_iload_n hx hb dX5_segmentOf_16 rfl (lv_at hl 3 rfl) ?_
  obtain ⟨r14, m15, e13, hf⟩ := bn2_ex hf
  refine k_i X hW (k_V (As := [.int x1, .int x2, .int x3]) (rest := []) X hW hml hl.1 (c_X5_segmentProperty l g hDW  _ _ _ mm _ _ e13) (r_recv X hW 12 0 (by decide) (by decide) rfl rfl) ⟨mw_572, kw_X5_segmentProperty⟩ ⟨⟨rfl, rfl⟩, ko_X5_segmentProperty, ⟨Nat.le_of_ble_eq_true rfl, Nat.le_of_ble_eq_true rfl⟩⟩ rfl rfl (Nat.le_of_ble_eq_true rfl) dX5_segmentOf_17 ⟨Nat.le_of_ble_eq_true rfl, Nat.le_of_ble_eq_true rfl⟩) (fun H locs hW => ?_)
  obtain ⟨ho, hm⟩ := prinj hf
  replace hW := hW.same hm.symm
  refine vx_ret ?_
  refine W.widen (k := 3) (n := 18) (Nat.le_of_ble_eq_true rfl) (Nat.le_of_ble_eq_true rfl) ?_
  exact e_xi X hr hW ho.symm dX5_segmentOf_20
set_option maxRecDepth 100000 in
set_option maxHeartbeats 4000000 in
theorem c_X5_count (l : Launch) (g : gG) (hDW : DW g) (hst : l.stackTraces = false) (x1 : Int32) (mm : gM) (o : String ⊕ Int32) (mZ : gM) (hf : fX5_count x1 mm = some (o, mZ)) : vx_Met l yX5_count (Cond.code yX5_count cX5_count 2 (some .int) :: ALLW) rm_X5_count (CPre g mm [.ref (ad g 12 0), .int x1]) (XQ g mZ o) (XX g mZ o) 1 6 (gA g) := by
  refine vx_ofW (cc := cX5_count) (maxL := 2) (ret := (some .int)) (by decide) rfl ?_
  intro p e s m args below meth c s₁ B hml hxt hv
  obtain ⟨ha, hFx, hP0, hlo⟩ := hv
  have X : Cx g p s m args c meth RX5 cX5_count := Cx_of hDW hFx hlo B
  have hx := X.1
  have hb := X.2.1
  have hr := B.returns
  have hlocks := X.2.2.2.2.2.2.2
  have hW : Wd g mm s s.heap [] := ⟨hP0, va_S.rf⟩
  rw [ha, lg_entry_eq]
  have hl := lv_entry ([.ref (ad g 12 0), .int x1] : List Value) (n := 2) (Nat.le_of_ble_eq_true rfl)
  generalize (lg_sl ([.ref (ad g 12 0), .int x1] : List Value) ++ List.replicate (2 - (lg_sl ([.ref (ad g 12 0), .int x1] : List Value)).length) Slot.unset).toArray = ls at hl ⊢
  have hl : lv_has ls 2 [(0, .ref (ad g 12 0)), (1, .int x1)] := hl
  rw [← ha]
  show W p l e rm_X5_count s m args below meth c s.heap [] 0 0 (vx_MQ below (XQ g mZ o) (XX g mZ o) args s 1 6 (gA g)) (F0 m 0 ls [])
  unfold fX5_count at hf
  refine lv_iload_n hx hb dX5_count_0 rfl (lv_at hl 1 rfl) ?_
  refine lv_bipush (v := 13) hx hb dX5_count_1 (by decide) ?_
  rcases bx_ex hf with ⟨E_, e1, hf⟩ | ⟨⟨⟩, e1, hf⟩
  · refine k_xv_x X hW (kx_S (As := [.int x1, .int 13]) (rest := []) X hW hml hl.1 (c_X5_checkWhat l g hDW hst  _ _ mm (.inl E_) e1) ⟨mw_884, kw_X5_checkWhat⟩ ⟨⟨rfl, rfl⟩, ko_X5_checkWhat, ⟨Nat.le_of_ble_eq_true rfl, Nat.le_of_ble_eq_true rfl⟩⟩ rfl rfl (Nat.le_of_ble_eq_true rfl) dX5_count_3 ⟨Nat.le_of_ble_eq_true rfl, Nat.le_of_ble_eq_true rfl⟩) (fun ce q9 H locs hW hq hv hcl => ?_)
    obtain ⟨ho, hm⟩ := prinj hf
    exact vx_out (fun x h => (hxt x h).elim) hlocks hq hv hcl (fun t ht _ => xx_of (hW.same hm.symm) ht ho.symm) hW.2.2.2 (Nat.le_of_ble_eq_true rfl) (Nat.le_of_ble_eq_true rfl)
  refine k_xv_r X hW (kx_S (As := [.int x1, .int 13]) (rest := []) X hW hml hl.1 (c_X5_checkWhat l g hDW hst  _ _ mm (.inr ()) e1) ⟨mw_884, kw_X5_checkWhat⟩ ⟨⟨rfl, rfl⟩, ko_X5_checkWhat, ⟨Nat.le_of_ble_eq_true rfl, Nat.le_of_ble_eq_true rfl⟩⟩ rfl rfl (Nat.le_of_ble_eq_true rfl) dX5_count_3 ⟨Nat.le_of_ble_eq_true rfl, Nat.le_of_ble_eq_true rfl⟩) (fun H locs hW => ?_)
  refine lv_aload_n hx hb dX5_count_6 rfl (lv_at hl 0 rfl) ?_
  refine lv_iload_n hx hb dX5_count_7 rfl (lv_at hl 1 rfl) ?_
  obtain ⟨r6, m7, e5, hf⟩ := bn2_ex hf
  refine k_i X hW (k_V (As := [.int x1]) (rest := []) X hW hml hl.1 (c_X5_number l g hDW  _ mm _ _ e5) (r_recv X hW 12 0 (by decide) (by decide) rfl rfl) ⟨mw_519, kw_X5_number⟩ ⟨⟨rfl, rfl⟩, ko_X5_number, ⟨Nat.le_of_ble_eq_true rfl, Nat.le_of_ble_eq_true rfl⟩⟩ rfl rfl (Nat.le_of_ble_eq_true rfl) dX5_count_8 ⟨Nat.le_of_ble_eq_true rfl, Nat.le_of_ble_eq_true rfl⟩) (fun H locs hW => ?_)
  obtain ⟨ho, hm⟩ := prinj hf
  replace hW := hW.same hm.symm
  refine vx_ret ?_
  refine W.widen (k := 1) (n := 6) (Nat.le_of_ble_eq_true rfl) (Nat.le_of_ble_eq_true rfl) ?_
  exact e_xi X hr hW ho.symm dX5_count_11
set_option maxRecDepth 100000 in
set_option maxHeartbeats 4000000 in
theorem c_X5_setting (l : Launch) (g : gG) (hDW : DW g) (hst : l.stackTraces = false) (x1 : Int32) (mm : gM) (o : String ⊕ Int32) (hf : fX5_setting x1 mm = some o) : vx_Met l yX5_setting (Cond.code yX5_setting cX5_setting 2 (some .int) :: ALLW) rm_X5_setting (CPre g mm [.ref (ad g 12 0), .int x1]) (XQ g mm o) (XX g mm o) 1 6 (gA g) := by
  refine vx_ofW (cc := cX5_setting) (maxL := 2) (ret := (some .int)) (by decide) rfl ?_
  intro p e s m args below meth c s₁ B hml hxt hv
  obtain ⟨ha, hFx, hP0, hlo⟩ := hv
  have X : Cx g p s m args c meth RX5 cX5_setting := Cx_of hDW hFx hlo B
  have hx := X.1
  have hb := X.2.1
  have hr := B.returns
  have hlocks := X.2.2.2.2.2.2.2
  have hW : Wd g mm s s.heap [] := ⟨hP0, va_S.rf⟩
  rw [ha, lg_entry_eq]
  have hl := lv_entry ([.ref (ad g 12 0), .int x1] : List Value) (n := 2) (Nat.le_of_ble_eq_true rfl)
  generalize (lg_sl ([.ref (ad g 12 0), .int x1] : List Value) ++ List.replicate (2 - (lg_sl ([.ref (ad g 12 0), .int x1] : List Value)).length) Slot.unset).toArray = ls at hl ⊢
  have hl : lv_has ls 2 [(0, .ref (ad g 12 0)), (1, .int x1)] := hl
  rw [← ha]
  show W p l e rm_X5_setting s m args below meth c s.heap [] 0 0 (vx_MQ below (XQ g mm o) (XX g mm o) args s 1 6 (gA g)) (F0 m 0 ls [])
  unfold fX5_setting at hf
  refine lv_iload_n hx hb dX5_setting_0 rfl (lv_at hl 1 rfl) ?_
  rcases bx_ex hf with ⟨E_, e1, hf⟩ | ⟨⟨⟩, e1, hf⟩
  · refine k_xv_x X hW (kx_S (As := [.int x1]) (rest := []) X hW hml hl.1 (c_X5_checkSetting l g hDW hst  _ mm (.inl E_) e1) ⟨mw_799, kw_X5_checkSetting⟩ ⟨⟨rfl, rfl⟩, ko_X5_checkSetting, ⟨Nat.le_of_ble_eq_true rfl, Nat.le_of_ble_eq_true rfl⟩⟩ rfl rfl (Nat.le_of_ble_eq_true rfl) dX5_setting_1 ⟨Nat.le_of_ble_eq_true rfl, Nat.le_of_ble_eq_true rfl⟩) (fun ce q9 H locs hW hq hv hcl => ?_)
    have ho := someinj hf
    exact vx_out (fun x h => (hxt x h).elim) hlocks hq hv hcl (fun t ht _ => xx_of hW ht ho.symm) hW.2.2.2 (Nat.le_of_ble_eq_true rfl) (Nat.le_of_ble_eq_true rfl)
  refine k_xv_r X hW (kx_S (As := [.int x1]) (rest := []) X hW hml hl.1 (c_X5_checkSetting l g hDW hst  _ mm (.inr ()) e1) ⟨mw_799, kw_X5_checkSetting⟩ ⟨⟨rfl, rfl⟩, ko_X5_checkSetting, ⟨Nat.le_of_ble_eq_true rfl, Nat.le_of_ble_eq_true rfl⟩⟩ rfl rfl (Nat.le_of_ble_eq_true rfl) dX5_setting_1 ⟨Nat.le_of_ble_eq_true rfl, Nat.le_of_ble_eq_true rfl⟩) (fun H locs hW => ?_)
  refine lv_aload_n hx hb dX5_setting_4 rfl (lv_at hl 0 rfl) ?_
  refine gf_12_1 X hW (by decide) mw_252 dX5_setting_5 ?_
  refine gf_0_4 X hW (by decide) mw_127 dX5_setting_8 ?_
  refine lv_iload_n hx hb dX5_setting_11 rfl (lv_at hl 1 rfl) ?_
  obtain ⟨b5, hf⟩ := chk_ex hf
  refine r_iald X hW 5 0 (by decide) (by decide) rfl b5 dX5_setting_12 ?_
  have ho := someinj hf
  refine vx_ret ?_
  refine W.widen (k := 1) (n := 6) (Nat.le_of_ble_eq_true rfl) (Nat.le_of_ble_eq_true rfl) ?_
  exact e_xi X hr hW ho.symm dX5_setting_13
set_option maxRecDepth 100000 in
set_option maxHeartbeats 4000000 in
theorem c_X5_couldBe (l : Launch) (g : gG) (hDW : DW g) (hst : l.stackTraces = false) (x1 : Int32) (x2 : Int32) (mm : gM) (o : String ⊕ Int32) (hf : fX5_couldBe x1 x2 mm = some o) : vx_Met l yX5_couldBe (Cond.code yX5_couldBe cX5_couldBe 3 (some .int) :: ALLW) rm_X5_couldBe (CPre g mm [.ref (ad g 12 0), .int x1, .int x2]) (XQ g mm o) (XX g mm o) 2 12 (gA g) := by
  refine vx_ofW (cc := cX5_couldBe) (maxL := 3) (ret := (some .int)) (by decide) rfl ?_
  intro p e s m args below meth c s₁ B hml hxt hv
  obtain ⟨ha, hFx, hP0, hlo⟩ := hv
  have X : Cx g p s m args c meth RX5 cX5_couldBe := Cx_of hDW hFx hlo B
  have hx := X.1
  have hb := X.2.1
  have hr := B.returns
  have hlocks := X.2.2.2.2.2.2.2
  have hW : Wd g mm s s.heap [] := ⟨hP0, va_S.rf⟩
  rw [ha, lg_entry_eq]
  have hl := lv_entry ([.ref (ad g 12 0), .int x1, .int x2] : List Value) (n := 3) (Nat.le_of_ble_eq_true rfl)
  generalize (lg_sl ([.ref (ad g 12 0), .int x1, .int x2] : List Value) ++ List.replicate (3 - (lg_sl ([.ref (ad g 12 0), .int x1, .int x2] : List Value)).length) Slot.unset).toArray = ls at hl ⊢
  have hl : lv_has ls 3 [(0, .ref (ad g 12 0)), (1, .int x1), (2, .int x2)] := hl
  rw [← ha]
  show W p l e rm_X5_couldBe s m args below meth c s.heap [] 0 0 (vx_MQ below (XQ g mm o) (XX g mm o) args s 2 12 (gA g)) (F0 m 0 ls [])
  unfold fX5_couldBe at hf
  refine lv_iload_n hx hb dX5_couldBe_0 rfl (lv_at hl 1 rfl) ?_
  rcases bx_ex hf with ⟨E_, e1, hf⟩ | ⟨⟨⟩, e1, hf⟩
  · refine k_xv_x X hW (kx_S (As := [.int x1]) (rest := []) X hW hml hl.1 (c_X5_checkSlot l g hDW hst  _ mm (.inl E_) e1) ⟨mw_638, kw_X5_checkSlot⟩ ⟨⟨rfl, rfl⟩, ko_X5_checkSlot, ⟨Nat.le_of_ble_eq_true rfl, Nat.le_of_ble_eq_true rfl⟩⟩ rfl rfl (Nat.le_of_ble_eq_true rfl) dX5_couldBe_1 ⟨Nat.le_of_ble_eq_true rfl, Nat.le_of_ble_eq_true rfl⟩) (fun ce q9 H locs hW hq hv hcl => ?_)
    have ho := someinj hf
    exact vx_out (fun x h => (hxt x h).elim) hlocks hq hv hcl (fun t ht _ => xx_of hW ht ho.symm) hW.2.2.2 (Nat.le_of_ble_eq_true rfl) (Nat.le_of_ble_eq_true rfl)
  refine k_xv_r X hW (kx_S (As := [.int x1]) (rest := []) X hW hml hl.1 (c_X5_checkSlot l g hDW hst  _ mm (.inr ()) e1) ⟨mw_638, kw_X5_checkSlot⟩ ⟨⟨rfl, rfl⟩, ko_X5_checkSlot, ⟨Nat.le_of_ble_eq_true rfl, Nat.le_of_ble_eq_true rfl⟩⟩ rfl rfl (Nat.le_of_ble_eq_true rfl) dX5_couldBe_1 ⟨Nat.le_of_ble_eq_true rfl, Nat.le_of_ble_eq_true rfl⟩) (fun H locs hW => ?_)
  refine lv_iload_n hx hb dX5_couldBe_4 rfl (lv_at hl 2 rfl) ?_
  refine lv_iconst (v := 2) hx hb dX5_couldBe_5 (by decide) ?_
  rcases bx_ex hf with ⟨E_, e5, hf⟩ | ⟨⟨⟩, e5, hf⟩
  · refine k_xv_x X hW (kx_S (As := [.int x2, .int 2]) (rest := []) X hW hml hl.1 (c_X5_checkWhat l g hDW hst  _ _ mm (.inl E_) e5) ⟨mw_884, kw_X5_checkWhat⟩ ⟨⟨rfl, rfl⟩, ko_X5_checkWhat, ⟨Nat.le_of_ble_eq_true rfl, Nat.le_of_ble_eq_true rfl⟩⟩ rfl rfl (Nat.le_of_ble_eq_true rfl) dX5_couldBe_6 ⟨Nat.le_of_ble_eq_true rfl, Nat.le_of_ble_eq_true rfl⟩) (fun ce q9 H locs hW hq hv hcl => ?_)
    have ho := someinj hf
    exact vx_out (fun x h => (hxt x h).elim) hlocks hq hv hcl (fun t ht _ => xx_of hW ht ho.symm) hW.2.2.2 (Nat.le_of_ble_eq_true rfl) (Nat.le_of_ble_eq_true rfl)
  refine k_xv_r X hW (kx_S (As := [.int x2, .int 2]) (rest := []) X hW hml hl.1 (c_X5_checkWhat l g hDW hst  _ _ mm (.inr ()) e5) ⟨mw_884, kw_X5_checkWhat⟩ ⟨⟨rfl, rfl⟩, ko_X5_checkWhat, ⟨Nat.le_of_ble_eq_true rfl, Nat.le_of_ble_eq_true rfl⟩⟩ rfl rfl (Nat.le_of_ble_eq_true rfl) dX5_couldBe_6 ⟨Nat.le_of_ble_eq_true rfl, Nat.le_of_ble_eq_true rfl⟩) (fun H locs hW => ?_)
  refine lv_iload_n hx hb dX5_couldBe_9 rfl (lv_at hl 2 rfl) ?_
  refine lv_if_ne (tgt := 21) hx hb dX5_couldBe_10 (by decide) (fun c15 => ?_) (fun c15 => ?_)
  · replace hf := ite_f hf c15
    refine lv_aload_n hx hb dX5_couldBe_21 rfl (lv_at hl 0 rfl) ?_
    refine lv_iload_n hx hb dX5_couldBe_22 rfl (lv_at hl 1 rfl) ?_
    obtain ⟨r10, e9, hf⟩ := bnd_ex hf
    refine k_i X hW (k_V (As := [.int x1]) (rest := []) X hW hml hl.1 (c_X5_lowestAlike l g hDW  _ mm _ e9) (r_recv X hW 12 0 (by decide) (by decide) rfl rfl) ⟨mw_582, kw_X5_lowestAlike⟩ ⟨⟨rfl, rfl⟩, ko_X5_lowestAlike, ⟨Nat.le_of_ble_eq_true rfl, Nat.le_of_ble_eq_true rfl⟩⟩ rfl rfl (Nat.le_of_ble_eq_true rfl) dX5_couldBe_23 ⟨Nat.le_of_ble_eq_true rfl, Nat.le_of_ble_eq_true rfl⟩) (fun H locs hW => ?_)
    have ho := someinj hf
    refine vx_ret ?_
    refine W.widen (k := 2) (n := 12) (Nat.le_of_ble_eq_true rfl) (Nat.le_of_ble_eq_true rfl) ?_
    exact e_xi X hr hW ho.symm dX5_couldBe_26
  · replace hf := ite_t hf c15
    refine lv_aload_n hx hb dX5_couldBe_13 rfl (lv_at hl 0 rfl) ?_
    refine lv_iload_n hx hb dX5_couldBe_14 rfl (lv_at hl 1 rfl) ?_
    obtain ⟨r13, e12, hf⟩ := bnd_ex hf
    refine k_i X hW (k_V (As := [.int x1]) (rest := []) X hW hml hl.1 (c_X5_alikeSigns l g hDW  _ mm _ e12) (r_recv X hW 12 0 (by decide) (by decide) rfl rfl) ⟨mw_576, kw_X5_alikeSigns⟩ ⟨⟨rfl, rfl⟩, ko_X5_alikeSigns, ⟨Nat.le_of_ble_eq_true rfl, Nat.le_of_ble_eq_true rfl⟩⟩ rfl rfl (Nat.le_of_ble_eq_true rfl) dX5_couldBe_15 ⟨Nat.le_of_ble_eq_true rfl, Nat.le_of_ble_eq_true rfl⟩) (fun H locs hW => ?_)
    refine lv_goto (tgt := 26) hx hb dX5_couldBe_18 (by decide) ?_
    have ho := someinj hf
    refine vx_ret ?_
    refine W.widen (k := 2) (n := 12) (Nat.le_of_ble_eq_true rfl) (Nat.le_of_ble_eq_true rfl) ?_
    exact e_xi X hr hW ho.symm dX5_couldBe_26
set_option maxRecDepth 100000 in
set_option maxHeartbeats 4000000 in
theorem c_X5_ifTimed (l : Launch) (g : gG) (hDW : DW g) (hst : l.stackTraces = false) (x1 : Int32) (x2 : Int32) (mm : gM) (o : String ⊕ Int32) (mZ : gM) (hf : fX5_ifTimed x1 x2 mm = some (o, mZ)) : vx_Met l yX5_ifTimed (Cond.code yX5_ifTimed cX5_ifTimed 3 (some .int) :: ALLW) rm_X5_ifTimed (CPre g mm [.ref (ad g 12 0), .int x1, .int x2]) (XQ g mZ o) (XX g mZ o) 2 12 (gA g) := by
  refine vx_ofW (cc := cX5_ifTimed) (maxL := 3) (ret := (some .int)) (by decide) rfl ?_
  intro p e s m args below meth c s₁ B hml hxt hv
  obtain ⟨ha, hFx, hP0, hlo⟩ := hv
  have X : Cx g p s m args c meth RX5 cX5_ifTimed := Cx_of hDW hFx hlo B
  have hx := X.1
  have hb := X.2.1
  have hr := B.returns
  have hlocks := X.2.2.2.2.2.2.2
  have hW : Wd g mm s s.heap [] := ⟨hP0, va_S.rf⟩
  rw [ha, lg_entry_eq]
  have hl := lv_entry ([.ref (ad g 12 0), .int x1, .int x2] : List Value) (n := 3) (Nat.le_of_ble_eq_true rfl)
  generalize (lg_sl ([.ref (ad g 12 0), .int x1, .int x2] : List Value) ++ List.replicate (3 - (lg_sl ([.ref (ad g 12 0), .int x1, .int x2] : List Value)).length) Slot.unset).toArray = ls at hl ⊢
  have hl : lv_has ls 3 [(0, .ref (ad g 12 0)), (1, .int x1), (2, .int x2)] := hl
  rw [← ha]
  show W p l e rm_X5_ifTimed s m args below meth c s.heap [] 0 0 (vx_MQ below (XQ g mZ o) (XX g mZ o) args s 2 12 (gA g)) (F0 m 0 ls [])
  unfold fX5_ifTimed at hf
  refine lv_iload_n hx hb dX5_ifTimed_0 rfl (lv_at hl 1 rfl) ?_
  rcases bx_ex hf with ⟨E_, e1, hf⟩ | ⟨⟨⟩, e1, hf⟩
  · refine k_xv_x X hW (kx_S (As := [.int x1]) (rest := []) X hW hml hl.1 (c_X5_checkSlot l g hDW hst  _ mm (.inl E_) e1) ⟨mw_638, kw_X5_checkSlot⟩ ⟨⟨rfl, rfl⟩, ko_X5_checkSlot, ⟨Nat.le_of_ble_eq_true rfl, Nat.le_of_ble_eq_true rfl⟩⟩ rfl rfl (Nat.le_of_ble_eq_true rfl) dX5_ifTimed_1 ⟨Nat.le_of_ble_eq_true rfl, Nat.le_of_ble_eq_true rfl⟩) (fun ce q9 H locs hW hq hv hcl => ?_)
    obtain ⟨ho, hm⟩ := prinj hf
    exact vx_out (fun x h => (hxt x h).elim) hlocks hq hv hcl (fun t ht _ => xx_of (hW.same hm.symm) ht ho.symm) hW.2.2.2 (Nat.le_of_ble_eq_true rfl) (Nat.le_of_ble_eq_true rfl)
  refine k_xv_r X hW (kx_S (As := [.int x1]) (rest := []) X hW hml hl.1 (c_X5_checkSlot l g hDW hst  _ mm (.inr ()) e1) ⟨mw_638, kw_X5_checkSlot⟩ ⟨⟨rfl, rfl⟩, ko_X5_checkSlot, ⟨Nat.le_of_ble_eq_true rfl, Nat.le_of_ble_eq_true rfl⟩⟩ rfl rfl (Nat.le_of_ble_eq_true rfl) dX5_ifTimed_1 ⟨Nat.le_of_ble_eq_true rfl, Nat.le_of_ble_eq_true rfl⟩) (fun H locs hW => ?_)
  refine lv_iload_n hx hb dX5_ifTimed_4 rfl (lv_at hl 2 rfl) ?_
  rcases bx_ex hf with ⟨E_, e5, hf⟩ | ⟨⟨⟩, e5, hf⟩
  · refine k_xv_x X hW (kx_S (As := [.int x2]) (rest := []) X hW hml hl.1 (c_X5_checkTime l g hDW hst  _ mm (.inl E_) e5) ⟨mw_760, kw_X5_checkTime⟩ ⟨⟨rfl, rfl⟩, ko_X5_checkTime, ⟨Nat.le_of_ble_eq_true rfl, Nat.le_of_ble_eq_true rfl⟩⟩ rfl rfl (Nat.le_of_ble_eq_true rfl) dX5_ifTimed_5 ⟨Nat.le_of_ble_eq_true rfl, Nat.le_of_ble_eq_true rfl⟩) (fun ce q9 H locs hW hq hv hcl => ?_)
    obtain ⟨ho, hm⟩ := prinj hf
    exact vx_out (fun x h => (hxt x h).elim) hlocks hq hv hcl (fun t ht _ => xx_of (hW.same hm.symm) ht ho.symm) hW.2.2.2 (Nat.le_of_ble_eq_true rfl) (Nat.le_of_ble_eq_true rfl)
  refine k_xv_r X hW (kx_S (As := [.int x2]) (rest := []) X hW hml hl.1 (c_X5_checkTime l g hDW hst  _ mm (.inr ()) e5) ⟨mw_760, kw_X5_checkTime⟩ ⟨⟨rfl, rfl⟩, ko_X5_checkTime, ⟨Nat.le_of_ble_eq_true rfl, Nat.le_of_ble_eq_true rfl⟩⟩ rfl rfl (Nat.le_of_ble_eq_true rfl) dX5_ifTimed_5 ⟨Nat.le_of_ble_eq_true rfl, Nat.le_of_ble_eq_true rfl⟩) (fun H locs hW => ?_)
  refine lv_aload_n hx hb dX5_ifTimed_8 rfl (lv_at hl 0 rfl) ?_
  refine lv_iload_n hx hb dX5_ifTimed_9 rfl (lv_at hl 1 rfl) ?_
  refine lv_iload_n hx hb dX5_ifTimed_10 rfl (lv_at hl 2 rfl) ?_
  obtain ⟨r10, m11, e9, hf⟩ := bn2_ex hf
  refine k_i X hW (k_V (As := [.int x1, .int x2]) (rest := []) X hW hml hl.1 (c_X5_meanIfTimed l g hDW  _ _ mm _ _ e9) (r_recv X hW 12 0 (by decide) (by decide) rfl rfl) ⟨mw_608, kw_X5_meanIfTimed⟩ ⟨⟨rfl, rfl⟩, ko_X5_meanIfTimed, ⟨Nat.le_of_ble_eq_true rfl, Nat.le_of_ble_eq_true rfl⟩⟩ rfl rfl (Nat.le_of_ble_eq_true rfl) dX5_ifTimed_11 ⟨Nat.le_of_ble_eq_true rfl, Nat.le_of_ble_eq_true rfl⟩) (fun H locs hW => ?_)
  obtain ⟨ho, hm⟩ := prinj hf
  replace hW := hW.same hm.symm
  refine vx_ret ?_
  refine W.widen (k := 2) (n := 12) (Nat.le_of_ble_eq_true rfl) (Nat.le_of_ble_eq_true rfl) ?_
  exact e_xi X hr hW ho.symm dX5_ifTimed_14
set_option maxRecDepth 100000 in
set_option maxHeartbeats 4000000 in
theorem c_X5_ifBalanced (l : Launch) (g : gG) (hDW : DW g) (hst : l.stackTraces = false) (x1 : Int32) (x2 : Int32) (mm : gM) (o : String ⊕ Int32) (mZ : gM) (hf : fX5_ifBalanced x1 x2 mm = some (o, mZ)) : vx_Met l yX5_ifBalanced (Cond.code yX5_ifBalanced cX5_ifBalanced 3 (some .int) :: ALLW) rm_X5_ifBalanced (CPre g mm [.ref (ad g 12 0), .int x1, .int x2]) (XQ g mZ o) (XX g mZ o) 2 12 (gA g) := by
  refine vx_ofW (cc := cX5_ifBalanced) (maxL := 3) (ret := (some .int)) (by decide) rfl ?_
  intro p e s m args below meth c s₁ B hml hxt hv
  obtain ⟨ha, hFx, hP0, hlo⟩ := hv
  have X : Cx g p s m args c meth RX5 cX5_ifBalanced := Cx_of hDW hFx hlo B
  have hx := X.1
  have hb := X.2.1
  have hr := B.returns
  have hlocks := X.2.2.2.2.2.2.2
  have hW : Wd g mm s s.heap [] := ⟨hP0, va_S.rf⟩
  rw [ha, lg_entry_eq]
  have hl := lv_entry ([.ref (ad g 12 0), .int x1, .int x2] : List Value) (n := 3) (Nat.le_of_ble_eq_true rfl)
  generalize (lg_sl ([.ref (ad g 12 0), .int x1, .int x2] : List Value) ++ List.replicate (3 - (lg_sl ([.ref (ad g 12 0), .int x1, .int x2] : List Value)).length) Slot.unset).toArray = ls at hl ⊢
  have hl : lv_has ls 3 [(0, .ref (ad g 12 0)), (1, .int x1), (2, .int x2)] := hl
  rw [← ha]
  show W p l e rm_X5_ifBalanced s m args below meth c s.heap [] 0 0 (vx_MQ below (XQ g mZ o) (XX g mZ o) args s 2 12 (gA g)) (F0 m 0 ls [])
  unfold fX5_ifBalanced at hf
  refine lv_iload_n hx hb dX5_ifBalanced_0 rfl (lv_at hl 2 rfl) ?_
  rcases bx_ex hf with ⟨E_, e1, hf⟩ | ⟨⟨⟩, e1, hf⟩
  · refine k_xv_x X hW (kx_S (As := [.int x2]) (rest := []) X hW hml hl.1 (c_X5_checkSlot l g hDW hst  _ mm (.inl E_) e1) ⟨mw_638, kw_X5_checkSlot⟩ ⟨⟨rfl, rfl⟩, ko_X5_checkSlot, ⟨Nat.le_of_ble_eq_true rfl, Nat.le_of_ble_eq_true rfl⟩⟩ rfl rfl (Nat.le_of_ble_eq_true rfl) dX5_ifBalanced_1 ⟨Nat.le_of_ble_eq_true rfl, Nat.le_of_ble_eq_true rfl⟩) (fun ce q9 H locs hW hq hv hcl => ?_)
    obtain ⟨ho, hm⟩ := prinj hf
    exact vx_out (fun x h => (hxt x h).elim) hlocks hq hv hcl (fun t ht _ => xx_of (hW.same hm.symm) ht ho.symm) hW.2.2.2 (Nat.le_of_ble_eq_true rfl) (Nat.le_of_ble_eq_true rfl)
  refine k_xv_r X hW (kx_S (As := [.int x2]) (rest := []) X hW hml hl.1 (c_X5_checkSlot l g hDW hst  _ mm (.inr ()) e1) ⟨mw_638, kw_X5_checkSlot⟩ ⟨⟨rfl, rfl⟩, ko_X5_checkSlot, ⟨Nat.le_of_ble_eq_true rfl, Nat.le_of_ble_eq_true rfl⟩⟩ rfl rfl (Nat.le_of_ble_eq_true rfl) dX5_ifBalanced_1 ⟨Nat.le_of_ble_eq_true rfl, Nat.le_of_ble_eq_true rfl⟩) (fun H locs hW => ?_)
  refine lv_iload_n hx hb dX5_ifBalanced_4 rfl (lv_at hl 1 rfl) ?_
  rcases bx_ex hf with ⟨E_, e5, hf⟩ | ⟨⟨⟩, e5, hf⟩
  · refine k_xv_x X hW (kx_S (As := [.int x1]) (rest := []) X hW hml hl.1 (c_X5_checkBalanced l g hDW hst  _ mm (.inl E_) e5) ⟨mw_772, kw_X5_checkBalanced⟩ ⟨⟨rfl, rfl⟩, ko_X5_checkBalanced, ⟨Nat.le_of_ble_eq_true rfl, Nat.le_of_ble_eq_true rfl⟩⟩ rfl rfl (Nat.le_of_ble_eq_true rfl) dX5_ifBalanced_5 ⟨Nat.le_of_ble_eq_true rfl, Nat.le_of_ble_eq_true rfl⟩) (fun ce q9 H locs hW hq hv hcl => ?_)
    obtain ⟨ho, hm⟩ := prinj hf
    exact vx_out (fun x h => (hxt x h).elim) hlocks hq hv hcl (fun t ht _ => xx_of (hW.same hm.symm) ht ho.symm) hW.2.2.2 (Nat.le_of_ble_eq_true rfl) (Nat.le_of_ble_eq_true rfl)
  refine k_xv_r X hW (kx_S (As := [.int x1]) (rest := []) X hW hml hl.1 (c_X5_checkBalanced l g hDW hst  _ mm (.inr ()) e5) ⟨mw_772, kw_X5_checkBalanced⟩ ⟨⟨rfl, rfl⟩, ko_X5_checkBalanced, ⟨Nat.le_of_ble_eq_true rfl, Nat.le_of_ble_eq_true rfl⟩⟩ rfl rfl (Nat.le_of_ble_eq_true rfl) dX5_ifBalanced_5 ⟨Nat.le_of_ble_eq_true rfl, Nat.le_of_ble_eq_true rfl⟩) (fun H locs hW => ?_)
  refine lv_aload_n hx hb dX5_ifBalanced_8 rfl (lv_at hl 0 rfl) ?_
  refine lv_iload_n hx hb dX5_ifBalanced_9 rfl (lv_at hl 1 rfl) ?_
  refine lv_iload_n hx hb dX5_ifBalanced_10 rfl (lv_at hl 2 rfl) ?_
  obtain ⟨r10, m11, e9, hf⟩ := bn2_ex hf
  refine k_i X hW (k_V (As := [.int x1, .int x2]) (rest := []) X hW hml hl.1 (c_X5_timeIfBalanced l g hDW  _ _ mm _ _ e9) (r_recv X hW 12 0 (by decide) (by decide) rfl rfl) ⟨mw_586, kw_X5_timeIfBalanced⟩ ⟨⟨rfl, rfl⟩, ko_X5_timeIfBalanced, ⟨Nat.le_of_ble_eq_true rfl, Nat.le_of_ble_eq_true rfl⟩⟩ rfl rfl (Nat.le_of_ble_eq_true rfl) dX5_ifBalanced_11 ⟨Nat.le_of_ble_eq_true rfl, Nat.le_of_ble_eq_true rfl⟩) (fun H locs hW => ?_)
  obtain ⟨ho, hm⟩ := prinj hf
  replace hW := hW.same hm.symm
  refine vx_ret ?_
  refine W.widen (k := 2) (n := 12) (Nat.le_of_ble_eq_true rfl) (Nat.le_of_ble_eq_true rfl) ?_
  exact e_xi X hr hW ho.symm dX5_ifBalanced_14
set_option maxRecDepth 100000 in
set_option maxHeartbeats 4000000 in
theorem c_X5_safest (l : Launch) (g : gG) (hDW : DW g) (hst : l.stackTraces = false) (x1 : Int32) (mm : gM) (o : String ⊕ Int32) (hf : fX5_safest x1 mm = some o) : vx_Met l yX5_safest (Cond.code yX5_safest cX5_safest 2 (some .int) :: ALLW) rm_X5_safest (CPre g mm [.ref (ad g 12 0), .int x1]) (XQ g mm o) (XX g mm o) 1 6 (gA g) := by
  refine vx_ofW (cc := cX5_safest) (maxL := 2) (ret := (some .int)) (by decide) rfl ?_
  intro p e s m args below meth c s₁ B hml hxt hv
  obtain ⟨ha, hFx, hP0, hlo⟩ := hv
  have X : Cx g p s m args c meth RX5 cX5_safest := Cx_of hDW hFx hlo B
  have hx := X.1
  have hb := X.2.1
  have hr := B.returns
  have hlocks := X.2.2.2.2.2.2.2
  have hW : Wd g mm s s.heap [] := ⟨hP0, va_S.rf⟩
  rw [ha, lg_entry_eq]
  have hl := lv_entry ([.ref (ad g 12 0), .int x1] : List Value) (n := 2) (Nat.le_of_ble_eq_true rfl)
  generalize (lg_sl ([.ref (ad g 12 0), .int x1] : List Value) ++ List.replicate (2 - (lg_sl ([.ref (ad g 12 0), .int x1] : List Value)).length) Slot.unset).toArray = ls at hl ⊢
  have hl : lv_has ls 2 [(0, .ref (ad g 12 0)), (1, .int x1)] := hl
  rw [← ha]
  show W p l e rm_X5_safest s m args below meth c s.heap [] 0 0 (vx_MQ below (XQ g mm o) (XX g mm o) args s 1 6 (gA g)) (F0 m 0 ls [])
  unfold fX5_safest at hf
  refine lv_iload_n hx hb dX5_safest_0 rfl (lv_at hl 1 rfl) ?_
  rcases bx_ex hf with ⟨E_, e1, hf⟩ | ⟨⟨⟩, e1, hf⟩
  · refine k_xv_x X hW (kx_S (As := [.int x1]) (rest := []) X hW hml hl.1 (c_X5_checkSlot l g hDW hst  _ mm (.inl E_) e1) ⟨mw_638, kw_X5_checkSlot⟩ ⟨⟨rfl, rfl⟩, ko_X5_checkSlot, ⟨Nat.le_of_ble_eq_true rfl, Nat.le_of_ble_eq_true rfl⟩⟩ rfl rfl (Nat.le_of_ble_eq_true rfl) dX5_safest_1 ⟨Nat.le_of_ble_eq_true rfl, Nat.le_of_ble_eq_true rfl⟩) (fun ce q9 H locs hW hq hv hcl => ?_)
    have ho := someinj hf
    exact vx_out (fun x h => (hxt x h).elim) hlocks hq hv hcl (fun t ht _ => xx_of hW ht ho.symm) hW.2.2.2 (Nat.le_of_ble_eq_true rfl) (Nat.le_of_ble_eq_true rfl)
  refine k_xv_r X hW (kx_S (As := [.int x1]) (rest := []) X hW hml hl.1 (c_X5_checkSlot l g hDW hst  _ mm (.inr ()) e1) ⟨mw_638, kw_X5_checkSlot⟩ ⟨⟨rfl, rfl⟩, ko_X5_checkSlot, ⟨Nat.le_of_ble_eq_true rfl, Nat.le_of_ble_eq_true rfl⟩⟩ rfl rfl (Nat.le_of_ble_eq_true rfl) dX5_safest_1 ⟨Nat.le_of_ble_eq_true rfl, Nat.le_of_ble_eq_true rfl⟩) (fun H locs hW => ?_)
  refine lv_aload_n hx hb dX5_safest_4 rfl (lv_at hl 0 rfl) ?_
  refine lv_iload_n hx hb dX5_safest_5 rfl (lv_at hl 1 rfl) ?_
  obtain ⟨r6, e5, hf⟩ := bnd_ex hf
  refine k_i X hW (k_V (As := [.int x1]) (rest := []) X hW hml hl.1 (c_X5_leastHurt l g hDW  _ mm _ e5) (r_recv X hW 12 0 (by decide) (by decide) rfl rfl) ⟨mw_604, kw_X5_leastHurt⟩ ⟨⟨rfl, rfl⟩, ko_X5_leastHurt, ⟨Nat.le_of_ble_eq_true rfl, Nat.le_of_ble_eq_true rfl⟩⟩ rfl rfl (Nat.le_of_ble_eq_true rfl) dX5_safest_6 ⟨Nat.le_of_ble_eq_true rfl, Nat.le_of_ble_eq_true rfl⟩) (fun H locs hW => ?_)
  have ho := someinj hf
  refine vx_ret ?_
  refine W.widen (k := 1) (n := 6) (Nat.le_of_ble_eq_true rfl) (Nat.le_of_ble_eq_true rfl) ?_
  exact e_xi X hr hW ho.symm dX5_safest_9
