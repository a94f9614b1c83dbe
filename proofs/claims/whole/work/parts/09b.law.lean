set_option maxRecDepth 100000 in
set_option maxHeartbeats 4000000 in
theorem c_L_show (l : Launch) (g : gG) (hDW : DW g) (hst : l.stackTraces = false) (x1 : Int32) (x2 : Int32) (mm : gM) (r0 : Int32) (mZ : gM) (hf : fL_show x1 x2 mm = some (r0, mZ)) : Met l yL_show (Cond.codeWith yL_show cL_show 5 (some .int) [(0, 10, 13, 13), (0, 10, 17, 15)] :: ALLW) rm_L_show (CPre g mm [.ref (ad g 12 0), .int x1, .int x2, .ref (ad g 34 0)]) (CI g mZ r0) 2 12 (gA g) := by
  refine va_MetW (cc := cL_show) (maxL := 5) (ret := (some .int)) (hh := [(0, 10, 13, 13), (0, 10, 17, 15)]) (by decide) rfl ?_
  intro p e s m args below meth c s₁ B hml hv
  obtain ⟨ha, hFx, hP0, hlo⟩ := hv
  have X : Cx g p s m args c meth RL cL_show := Cx_ofW hDW hFx hlo B
  have hxt := vx_table (x := yL_show) B (atoms_spec (ws := Cond.codeWith yL_show cL_show 5 (some .int) [(0, 10, 13, 13), (0, 10, 17, 15)] :: ALLW) B.pre _ List.mem_cons_self)
  have hx := X.1
  have hb := X.2.1
  have hr := B.returns
  have hlocks := X.2.2.2.2.2.2.2
  have hW : Wd g mm s s.heap [] := ⟨hP0, va_S.rf⟩
  rw [ha, lg_entry_eq]
  have hl := lv_entry ([.ref (ad g 12 0), .int x1, .int x2, .ref (ad g 34 0)] : List Value) (n := 5) (Nat.le_of_ble_eq_true rfl)
  generalize (lg_sl ([.ref (ad g 12 0), .int x1, .int x2, .ref (ad g 34 0)] : List Value) ++ List.replicate (5 - (lg_sl ([.ref (ad g 12 0), .int x1, .int x2, .ref (ad g 34 0)] : List Value)).length) Slot.unset).toArray = ls at hl ⊢
  have hl : lv_has ls 5 [(0, .ref (ad g 12 0)), (1, .int x1), (2, .int x2), (3, .ref (ad g 34 0))] := hl
  rw [← ha]
  show W p l e rm_L_show s m args below meth c s.heap [] 0 0 (MQ below (CI g mZ r0) args s 2 12 (gA g)) (F0 m 0 ls [])
  unfold fL_show at hf
  refine lv_aload_n hx hb dL_show_0 rfl (lv_at hl 3 rfl) ?_
  refine lv_iconst (v := 0) hx hb dL_show_1 (by decide) ?_
  refine lv_aload_n hx hb dL_show_2 rfl (lv_at hl 0 rfl) ?_
  refine lv_iload_n hx hb dL_show_3 rfl (lv_at hl 1 rfl) ?_
  refine lv_iload_n hx hb dL_show_4 rfl (lv_at hl 2 rfl) ?_
  rcases bx2_ex hf with ⟨E_, m1, e1, hf⟩ | ⟨r, m1, e1, hf⟩
  · refine k_xi_x X hW (kx_V (As := [.int x1, .int x2]) (rest := [.int 0, .ref (ad g 34 0)]) X hW hml hl.1 (c_X5_show l g hDW hst _ _ mm (.inl E_) m1 e1) (r_recv X hW 12 0 (by decide) (by decide) rfl rfl) ⟨mw_634, kw_X5_show⟩ ⟨⟨rfl, rfl⟩, ko_X5_show, ⟨Nat.le_of_ble_eq_true rfl, Nat.le_of_ble_eq_true rfl⟩⟩ rfl rfl (Nat.le_of_ble_eq_true rfl) dL_show_5 ⟨Nat.le_of_ble_eq_true rfl, Nat.le_of_ble_eq_true rfl⟩) (fun ce q9 H locs hW hq hv hcl => ?_)
    by_cases h0 : E_ = "java/lang/IndexOutOfBoundsException"
    · replace hf := ite_t hf h0
      subst h0
      refine vx_catch (name := "java/lang/IndexOutOfBoundsException") X.2.2.1 [] ⟨0, 10, 13, 13⟩ [⟨0, 10, 17, 15⟩] (by rw [hxt]; rfl) (fun z hz => nomatch hz) (by decide) (by decide) (X.2.2.2.1 _ mw_632) (va_Nw.use rfl X.2.2.2.2.2.2.1.2.2.2.2.2.2.2.2.1) hq hv hcl ?_
      refine lv_astore (lv' := [(4, .ref q9), (0, .ref (ad g 12 0)), (1, .int x1), (2, .int x2), (3, .ref (ad g 34 0))]) hx hb dL_show_13 hl (by decide) rfl (fun ls hl => ?_)
      refine lv_iconst (v := 1) hx hb dL_show_15 (by decide) ?_
      obtain ⟨hf, hm⟩ := prinj hf
      exact e_i X hr (hW.same hm.symm) hf dL_show_16
    · replace hf := ite_f hf h0
      by_cases h1 : E_ = "java/lang/IllegalArgumentException"
      · replace hf := ite_t hf h1
        subst h1
        refine vx_catch (name := "java/lang/IllegalArgumentException") X.2.2.1 [⟨0, 10, 13, 13⟩] ⟨0, 10, 17, 15⟩ [] (by rw [hxt]; rfl) (fun z hz => by rcases List.mem_singleton.mp hz with rfl; exact Or.inr ⟨by decide, "java/lang/IndexOutOfBoundsException", X.2.2.2.1 _ mw_632, X.2.2.2.2.2.2.1.2.2.2.2.2.2.2.2.2.2.2.2.2.1⟩) (by decide) (by decide) (X.2.2.2.1 _ mw_633) (va_Nw.use rfl X.2.2.2.2.2.2.1.2.2.2.2.2.2.1) hq hv hcl ?_
        refine lv_astore (lv' := [(4, .ref q9), (0, .ref (ad g 12 0)), (1, .int x1), (2, .int x2), (3, .ref (ad g 34 0))]) hx hb dL_show_17 hl (by decide) rfl (fun ls hl => ?_)
        refine lv_iconst (v := 2) hx hb dL_show_19 (by decide) ?_
        obtain ⟨hf, hm⟩ := prinj hf
        exact e_i X hr (hW.same hm.symm) hf dL_show_20
      · replace hf := ite_f hf h1
        exact (no_some hf).elim
  · refine k_xi_r X hW (kx_V (As := [.int x1, .int x2]) (rest := [.int 0, .ref (ad g 34 0)]) X hW hml hl.1 (c_X5_show l g hDW hst _ _ mm (.inr r) m1 e1) (r_recv X hW 12 0 (by decide) (by decide) rfl rfl) ⟨mw_634, kw_X5_show⟩ ⟨⟨rfl, rfl⟩, ko_X5_show, ⟨Nat.le_of_ble_eq_true rfl, Nat.le_of_ble_eq_true rfl⟩⟩ rfl rfl (Nat.le_of_ble_eq_true rfl) dL_show_5 ⟨Nat.le_of_ble_eq_true rfl, Nat.le_of_ble_eq_true rfl⟩) (fun H locs hW => ?_)
    refine lv_i2l hx hb dL_show_8 (v := r.toInt64) rfl ?_
    refine r_last X hW vp01 dL_show_9 (fun H locs hW => ?_)
    refine lv_goto (tgt := 21) hx hb dL_show_10 (by decide) ?_
    refine lv_iconst (v := 0) hx hb dL_show_21 (by decide) ?_
    obtain ⟨hf, hm⟩ := prinj hf
    exact e_i X hr (hW.same hm.symm) hf dL_show_22
set_option maxRecDepth 100000 in
set_option maxHeartbeats 4000000 in
theorem c_L_dot (l : Launch) (g : gG) (hDW : DW g) (hst : l.stackTraces = false) (x1 : Int32) (mm : gM) (r0 : Int32) (mZ : gM) (hf : fL_dot x1 mm = some (r0, mZ)) : Met l yL_dot (Cond.codeWith yL_dot cL_dot 4 (some .int) [(0, 9, 12, 13)] :: ALLW) rm_L_dot (CPre g mm [.ref (ad g 12 0), .int x1, .ref (ad g 34 0)]) (CI g mZ r0) 1 6 (gA g) := by
  refine va_MetW (cc := cL_dot) (maxL := 4) (ret := (some .int)) (hh := [(0, 9, 12, 13)]) (by decide) rfl ?_
  intro p e s m args below meth c s₁ B hml hv
  obtain ⟨ha, hFx, hP0, hlo⟩ := hv
  have X : Cx g p s m args c meth RL cL_dot := Cx_ofW hDW hFx hlo B
  have hxt := vx_table (x := yL_dot) B (atoms_spec (ws := Cond.codeWith yL_dot cL_dot 4 (some .int) [(0, 9, 12, 13)] :: ALLW) B.pre _ List.mem_cons_self)
  have hx := X.1
  have hb := X.2.1
  have hr := B.returns
  have hlocks := X.2.2.2.2.2.2.2
  have hW : Wd g mm s s.heap [] := ⟨hP0, va_S.rf⟩
  rw [ha, lg_entry_eq]
  have hl := lv_entry ([.ref (ad g 12 0), .int x1, .ref (ad g 34 0)] : List Value) (n := 4) (Nat.le_of_ble_eq_true rfl)
  generalize (lg_sl ([.ref (ad g 12 0), .int x1, .ref (ad g 34 0)] : List Value) ++ List.replicate (4 - (lg_sl ([.ref (ad g 12 0), .int x1, .ref (ad g 34 0)] : List Value)).length) Slot.unset).toArray = ls at hl ⊢
  have hl : lv_has ls 4 [(0, .ref (ad g 12 0)), (1, .int x1), (2, .ref (ad g 34 0))] := hl
  rw [← ha]
  show W p l e rm_L_dot s m args below meth c s.heap [] 0 0 (MQ below (CI g mZ r0) args s 1 6 (gA g)) (F0 m 0 ls [])
  unfold fL_dot at hf
  refine lv_aload_n hx hb dL_dot_0 rfl (lv_at hl 2 rfl) ?_
  refine lv_iconst (v := 0) hx hb dL_dot_1 (by decide) ?_
  refine lv_aload_n hx hb dL_dot_2 rfl (lv_at hl 0 rfl) ?_
  refine lv_iload_n hx hb dL_dot_3 rfl (lv_at hl 1 rfl) ?_
  rcases bx2_ex hf with ⟨E_, m1, e1, hf⟩ | ⟨r, m1, e1, hf⟩
  · refine k_xi_x X hW (kx_V (As := [.int x1]) (rest := [.int 0, .ref (ad g 34 0)]) X hW hml hl.1 (c_X5_dot l g hDW hst _ mm (.inl E_) m1 e1) (r_recv X hW 12 0 (by decide) (by decide) rfl rfl) ⟨mw_731, kw_X5_dot⟩ ⟨⟨rfl, rfl⟩, ko_X5_dot, ⟨Nat.le_of_ble_eq_true rfl, Nat.le_of_ble_eq_true rfl⟩⟩ rfl rfl (Nat.le_of_ble_eq_true rfl) dL_dot_4 ⟨Nat.le_of_ble_eq_true rfl, Nat.le_of_ble_eq_true rfl⟩) (fun ce q9 H locs hW hq hv hcl => ?_)
    by_cases h0 : E_ = "java/lang/IndexOutOfBoundsException"
    · replace hf := ite_t hf h0
      subst h0
      refine vx_catch (name := "java/lang/IndexOutOfBoundsException") X.2.2.1 [] ⟨0, 9, 12, 13⟩ [] (by rw [hxt]; rfl) (fun z hz => nomatch hz) (by decide) (by decide) (X.2.2.2.1 _ mw_632) (va_Nw.use rfl X.2.2.2.2.2.2.1.2.2.2.2.2.2.2.2.1) hq hv hcl ?_
      refine lv_astore_n (lv' := [(3, .ref q9), (0, .ref (ad g 12 0)), (1, .int x1), (2, .ref (ad g 34 0))]) hx hb dL_dot_12 rfl hl (by decide) rfl (fun ls hl => ?_)
      refine lv_iconst (v := 1) hx hb dL_dot_13 (by decide) ?_
      obtain ⟨hf, hm⟩ := prinj hf
      exact e_i X hr (hW.same hm.symm) hf dL_dot_14
    · replace hf := ite_f hf h0
      exact (no_some hf).elim
  · refine k_xi_r X hW (kx_V (As := [.int x1]) (rest := [.int 0, .ref (ad g 34 0)]) X hW hml hl.1 (c_X5_dot l g hDW hst _ mm (.inr r) m1 e1) (r_recv X hW 12 0 (by decide) (by decide) rfl rfl) ⟨mw_731, kw_X5_dot⟩ ⟨⟨rfl, rfl⟩, ko_X5_dot, ⟨Nat.le_of_ble_eq_true rfl, Nat.le_of_ble_eq_true rfl⟩⟩ rfl rfl (Nat.le_of_ble_eq_true rfl) dL_dot_4 ⟨Nat.le_of_ble_eq_true rfl, Nat.le_of_ble_eq_true rfl⟩) (fun H locs hW => ?_)
    refine lv_i2l hx hb dL_dot_7 (v := r.toInt64) rfl ?_
    refine r_last X hW vp01 dL_dot_8 (fun H locs hW => ?_)
    refine lv_goto (tgt := 15) hx hb dL_dot_9 (by decide) ?_
    refine lv_iconst (v := 0) hx hb dL_dot_15 (by decide) ?_
    obtain ⟨hf, hm⟩ := prinj hf
    exact e_i X hr (hW.same hm.symm) hf dL_dot_16
set_option maxRecDepth 100000 in
set_option maxHeartbeats 4000000 in
theorem c_L_burn (l : Launch) (g : gG) (hDW : DW g) (hst : l.stackTraces = false) (x1 : Int32) (x2 : Int32) (mm : gM) (r0 : Int32) (mZ : gM) (hf : fL_burn x1 x2 mm = some (r0, mZ)) : Met l yL_burn (Cond.codeWith yL_burn cL_burn 5 (some .int) [(0, 10, 13, 13)] :: ALLW) rm_L_burn (CPre g mm [.ref (ad g 12 0), .int x1, .int x2, .ref (ad g 34 0)]) (CI g mZ r0) 2 12 (gA g) := by
  refine va_MetW (cc := cL_burn) (maxL := 5) (ret := (some .int)) (hh := [(0, 10, 13, 13)]) (by decide) rfl ?_
  intro p e s m args below meth c s₁ B hml hv
  obtain ⟨ha, hFx, hP0, hlo⟩ := hv
  have X : Cx g p s m args c meth RL cL_burn := Cx_ofW hDW hFx hlo B
  have hxt := vx_table (x := yL_burn) B (atoms_spec (ws := Cond.codeWith yL_burn cL_burn 5 (some .int) [(0, 10, 13, 13)] :: ALLW) B.pre _ List.mem_cons_self)
  have hx := X.1
  have hb := X.2.1
  have hr := B.returns
  have hlocks := X.2.2.2.2.2.2.2
  have hW : Wd g mm s s.heap [] := ⟨hP0, va_S.rf⟩
  rw [ha, lg_entry_eq]
  have hl := lv_entry ([.ref (ad g 12 0), .int x1, .int x2, .ref (ad g 34 0)] : List Value) (n := 5) (Nat.le_of_ble_eq_true rfl)
  generalize (lg_sl ([.ref (ad g 12 0), .int x1, .int x2, .ref (ad g 34 0)] : List Value) ++ List.replicate (5 - (lg_sl ([.ref (ad g 12 0), .int x1, .int x2, .ref (ad g 34 0)] : List Value)).length) Slot.unset).toArray = ls at hl ⊢
  have hl : lv_has ls 5 [(0, .ref (ad g 12 0)), (1, .int x1), (2, .int x2), (3, .ref (ad g 34 0))] := hl
  rw [← ha]
  show W p l e rm_L_burn s m args below meth c s.heap [] 0 0 (MQ below (CI g mZ r0) args s 2 12 (gA g)) (F0 m 0 ls [])
  unfold fL_burn at hf
  refine lv_aload_n hx hb dL_burn_0 rfl (lv_at hl 3 rfl) ?_
  refine lv_iconst (v := 0) hx hb dL_burn_1 (by decide) ?_
  refine lv_aload_n hx hb dL_burn_2 rfl (lv_at hl 0 rfl) ?_
  refine lv_iload_n hx hb dL_burn_3 rfl (lv_at hl 1 rfl) ?_
  refine lv_iload_n hx hb dL_burn_4 rfl (lv_at hl 2 rfl) ?_
  rcases bx2_ex hf with ⟨E_, m1, e1, hf⟩ | ⟨r, m1, e1, hf⟩
  · refine k_xi_x X hW (kx_V (As := [.int x1, .int x2]) (rest := [.int 0, .ref (ad g 34 0)]) X hW hml hl.1 (c_X5_burn l g hDW hst _ _ mm (.inl E_) m1 e1) (r_recv X hW 12 0 (by decide) (by decide) rfl rfl) ⟨mw_738, kw_X5_burn⟩ ⟨⟨rfl, rfl⟩, ko_X5_burn, ⟨Nat.le_of_ble_eq_true rfl, Nat.le_of_ble_eq_true rfl⟩⟩ rfl rfl (Nat.le_of_ble_eq_true rfl) dL_burn_5 ⟨Nat.le_of_ble_eq_true rfl, Nat.le_of_ble_eq_true rfl⟩) (fun ce q9 H locs hW hq hv hcl => ?_)
    by_cases h0 : E_ = "java/lang/IndexOutOfBoundsException"
    · replace hf := ite_t hf h0
      subst h0
      refine vx_catch (name := "java/lang/IndexOutOfBoundsException") X.2.2.1 [] ⟨0, 10, 13, 13⟩ [] (by rw [hxt]; rfl) (fun z hz => nomatch hz) (by decide) (by decide) (X.2.2.2.1 _ mw_632) (va_Nw.use rfl X.2.2.2.2.2.2.1.2.2.2.2.2.2.2.2.1) hq hv hcl ?_
      refine lv_astore (lv' := [(4, .ref q9), (0, .ref (ad g 12 0)), (1, .int x1), (2, .int x2), (3, .ref (ad g 34 0))]) hx hb dL_burn_13 hl (by decide) rfl (fun ls hl => ?_)
      refine lv_iconst (v := 1) hx hb dL_burn_15 (by decide) ?_
      obtain ⟨hf, hm⟩ := prinj hf
      exact e_i X hr (hW.same hm.symm) hf dL_burn_16
    · replace hf := ite_f hf h0
      exact (no_some hf).elim
  · refine k_xi_r X hW (kx_V (As := [.int x1, .int x2]) (rest := [.int 0, .ref (ad g 34 0)]) X hW hml hl.1 (c_X5_burn l g hDW hst _ _ mm (.inr r) m1 e1) (r_recv X hW 12 0 (by decide) (by decide) rfl rfl) ⟨mw_738, kw_X5_burn⟩ ⟨⟨rfl, rfl⟩, ko_X5_burn, ⟨Nat.le_of_ble_eq_true rfl, Nat.le_of_ble_eq_true rfl⟩⟩ rfl rfl (Nat.le_of_ble_eq_true rfl) dL_burn_5 ⟨Nat.le_of_ble_eq_true rfl, Nat.le_of_ble_eq_true rfl⟩) (fun H locs hW => ?_)
    refine lv_i2l hx hb dL_burn_8 (v := r.toInt64) rfl ?_
    refine r_last X hW vp01 dL_burn_9 (fun H locs hW => ?_)
    refine lv_goto (tgt := 17) hx hb dL_burn_10 (by decide) ?_
    refine lv_iconst (v := 0) hx hb dL_burn_17 (by decide) ?_
    obtain ⟨hf, hm⟩ := prinj hf
    exact e_i X hr (hW.same hm.symm) hf dL_burn_18
set_option maxRecDepth 100000 in
set_option maxHeartbeats 4000000 in
theorem c_L_cut (l : Launch) (g : gG) (hDW : DW g) (hst : l.stackTraces = false) (x1 : Int32) (mm : gM) (r0 : Int32) (mZ : gM) (hf : fL_cut x1 mm = some (r0, mZ)) : Met l yL_cut (Cond.codeWith yL_cut cL_cut 4 (some .int) [(0, 9, 12, 13)] :: ALLW) rm_L_cut (CPre g mm [.ref (ad g 12 0), .int x1, .ref (ad g 34 0)]) (CI g mZ r0) 1 6 (gA g) := by
  refine va_MetW (cc := cL_cut) (maxL := 4) (ret := (some .int)) (hh := [(0, 9, 12, 13)]) (by decide) rfl ?_
  intro p e s m args below meth c s₁ B hml hv
  obtain ⟨ha, hFx, hP0, hlo⟩ := hv
  have X : Cx g p s m args c meth RL cL_cut := Cx_ofW hDW hFx hlo B
  have hxt := vx_table (x := yL_cut) B (atoms_spec (ws := Cond.codeWith yL_cut cL_cut 4 (some .int) [(0, 9, 12, 13)] :: ALLW) B.pre _ List.mem_cons_self)
  have hx := X.1
  have hb := X.2.1
  have hr := B.returns
  have hlocks := X.2.2.2.2.2.2.2
  have hW : Wd g mm s s.heap [] := ⟨hP0, va_S.rf⟩
  rw [ha, lg_entry_eq]
  have hl := lv_entry ([.ref (ad g 12 0), .int x1, .ref (ad g 34 0)] : List Value) (n := 4) (Nat.le_of_ble_eq_true rfl)
  generalize (lg_sl ([.ref (ad g 12 0), .int x1, .ref (ad g 34 0)] : List Value) ++ List.replicate (4 - (lg_sl ([.ref (ad g 12 0), .int x1, .ref (ad g 34 0)] : List Value)).length) Slot.unset).toArray = ls at hl ⊢
  have hl : lv_has ls 4 [(0, .ref (ad g 12 0)), (1, .int x1), (2, .ref (ad g 34 0))] := hl
  rw [← ha]
  show W p l e rm_L_cut s m args below meth c s.heap [] 0 0 (MQ below (CI g mZ r0) args s 1 6 (gA g)) (F0 m 0 ls [])
  unfold fL_cut at hf
  refine lv_aload_n hx hb dL_cut_0 rfl (lv_at hl 2 rfl) ?_
  refine lv_iconst (v := 0) hx hb dL_cut_1 (by decide) ?_
  refine lv_aload_n hx hb dL_cut_2 rfl (lv_at hl 0 rfl) ?_
  refine lv_iload_n hx hb dL_cut_3 rfl (lv_at hl 1 rfl) ?_
  rcases bx2_ex hf with ⟨E_, m1, e1, hf⟩ | ⟨r, m1, e1, hf⟩
  · refine k_xi_x X hW (kx_V (As := [.int x1]) (rest := [.int 0, .ref (ad g 34 0)]) X hW hml hl.1 (c_X5_cut l g hDW hst _ mm (.inl E_) m1 e1) (r_recv X hW 12 0 (by decide) (by decide) rfl rfl) ⟨mw_749, kw_X5_cut⟩ ⟨⟨rfl, rfl⟩, ko_X5_cut, ⟨Nat.le_of_ble_eq_true rfl, Nat.le_of_ble_eq_true rfl⟩⟩ rfl rfl (Nat.le_of_ble_eq_true rfl) dL_cut_4 ⟨Nat.le_of_ble_eq_true rfl, Nat.le_of_ble_eq_true rfl⟩) (fun ce q9 H locs hW hq hv hcl => ?_)
    by_cases h0 : E_ = "java/lang/IndexOutOfBoundsException"
    · replace hf := ite_t hf h0
      subst h0
      refine vx_catch (name := "java/lang/IndexOutOfBoundsException") X.2.2.1 [] ⟨0, 9, 12, 13⟩ [] (by rw [hxt]; rfl) (fun z hz => nomatch hz) (by decide) (by decide) (X.2.2.2.1 _ mw_632) (va_Nw.use rfl X.2.2.2.2.2.2.1.2.2.2.2.2.2.2.2.1) hq hv hcl ?_
      refine lv_astore_n (lv' := [(3, .ref q9), (0, .ref (ad g 12 0)), (1, .int x1), (2, .ref (ad g 34 0))]) hx hb dL_cut_12 rfl hl (by decide) rfl (fun ls hl => ?_)
      refine lv_iconst (v := 1) hx hb dL_cut_13 (by decide) ?_
      obtain ⟨hf, hm⟩ := prinj hf
      exact e_i X hr (hW.same hm.symm) hf dL_cut_14
    · replace hf := ite_f hf h0
      exact (no_some hf).elim
  · refine k_xi_r X hW (kx_V (As := [.int x1]) (rest := [.int 0, .ref (ad g 34 0)]) X hW hml hl.1 (c_X5_cut l g hDW hst _ mm (.inr r) m1 e1) (r_recv X hW 12 0 (by decide) (by decide) rfl rfl) ⟨mw_749, kw_X5_cut⟩ ⟨⟨rfl, rfl⟩, ko_X5_cut, ⟨Nat.le_of_ble_eq_true rfl, Nat.le_of_ble_eq_true rfl⟩⟩ rfl rfl (Nat.le_of_ble_eq_true rfl) dL_cut_4 ⟨Nat.le_of_ble_eq_true rfl, Nat.le_of_ble_eq_true rfl⟩) (fun H locs hW => ?_)
    refine lv_i2l hx hb dL_cut_7 (v := r.toInt64) rfl ?_
    refine r_last X hW vp01 dL_cut_8 (fun H locs hW => ?_)
    refine lv_goto (tgt := 15) hx hb dL_cut_9 (by decide) ?_
    refine lv_iconst (v := 0) hx hb dL_cut_15 (by decide) ?_
    obtain ⟨hf, hm⟩ := prinj hf
    exact e_i X hr (hW.same hm.symm) hf dL_cut_16
set_option maxRecDepth 100000 in
set_option maxHeartbeats 4000000 in
theorem c_L_time (l : Launch) (g : gG) (hDW : DW g) (hst : l.stackTraces = false) (x1 : Int32) (x2 : Int32) (mm : gM) (r0 : Int32) (mZ : gM) (hf : fL_time x1 x2 mm = some (r0, mZ)) : Met l yL_time (Cond.codeWith yL_time cL_time 5 (some .int) [(0, 10, 13, 13), (0, 10, 17, 15)] :: ALLW) rm_L_time (CPre g mm [.ref (ad g 12 0), .int x1, .int x2, .ref (ad g 34 0)]) (CI g mZ r0) 2 12 (gA g) := by
  refine va_MetW (cc := cL_time) (maxL := 5) (ret := (some .int)) (hh := [(0, 10, 13, 13), (0, 10, 17, 15)]) (by decide) rfl ?_
  intro p e s m args below meth c s₁ B hml hv
  obtain ⟨ha, hFx, hP0, hlo⟩ := hv
  have X : Cx g p s m args c meth RL cL_time := Cx_ofW hDW hFx hlo B
  have hxt := vx_table (x := yL_time) B (atoms_spec (ws := Cond.codeWith yL_time cL_time 5 (some .int) [(0, 10, 13, 13), (0, 10, 17, 15)] :: ALLW) B.pre _ List.mem_cons_self)
  have hx := X.1
  have hb := X.2.1
  have hr := B.returns
  have hlocks := X.2.2.2.2.2.2.2
  have hW : Wd g mm s s.heap [] := ⟨hP0, va_S.rf⟩
  rw [ha, lg_entry_eq]
  have hl := lv_entry ([.ref (ad g 12 0), .int x1, .int x2, .ref (ad g 34 0)] : List Value) (n := 5) (Nat.le_of_ble_eq_true rfl)
  generalize (lg_sl ([.ref (ad g 12 0), .int x1, .int x2, .ref (ad g 34 0)] : List Value) ++ List.replicate (5 - (lg_sl ([.ref (ad g 12 0), .int x1, .int x2, .ref (ad g 34 0)] : List Value)).length) Slot.unset).toArray = ls at hl ⊢
  have hl : lv_has ls 5 [(0, .ref (ad g 12 0)), (1, .int x1), (2, .int x2), (3, .ref (ad g 34 0))] := hl
  rw [← ha]
  show W p l e rm_L_time s m args below meth c s.heap [] 0 0 (MQ below (CI g mZ r0) args s 2 12 (gA g)) (F0 m 0 ls [])
  unfold fL_time at hf
  refine lv_aload_n hx hb dL_time_0 rfl (lv_at hl 3 rfl) ?_
  refine lv_iconst (v := 0) hx hb dL_time_1 (by decide) ?_
  refine lv_aload_n hx hb dL_time_2 rfl (lv_at hl 0 rfl) ?_
  refine lv_iload_n hx hb dL_time_3 rfl (lv_at hl 1 rfl) ?_
  refine lv_iload_n hx hb dL_time_4 rfl (lv_at hl 2 rfl) ?_
  rcases bx2_ex hf with ⟨E_, m1, e1, hf⟩ | ⟨r, m1, e1, hf⟩
  · refine k_xi_x X hW (kx_V (As := [.int x1, .int x2]) (rest := [.int 0, .ref (ad g 34 0)]) X hW hml hl.1 (c_X5_time l g hDW hst _ _ mm (.inl E_) m1 e1) (r_recv X hW 12 0 (by decide) (by decide) rfl rfl) ⟨mw_756, kw_X5_time⟩ ⟨⟨rfl, rfl⟩, ko_X5_time, ⟨Nat.le_of_ble_eq_true rfl, Nat.le_of_ble_eq_true rfl⟩⟩ rfl rfl (Nat.le_of_ble_eq_true rfl) dL_time_5 ⟨Nat.le_of_ble_eq_true rfl, Nat.le_of_ble_eq_true rfl⟩) (fun ce q9 H locs hW hq hv hcl => ?_)
    by_cases h0 : E_ = "java/lang/IndexOutOfBoundsException"
    · replace hf := ite_t hf h0
      subst h0
      refine vx_catch (name := "java/lang/IndexOutOfBoundsException") X.2.2.1 [] ⟨0, 10, 13, 13⟩ [⟨0, 10, 17, 15⟩] (by rw [hxt]; rfl) (fun z hz => nomatch hz) (by decide) (by decide) (X.2.2.2.1 _ mw_632) (va_Nw.use rfl X.2.2.2.2.2.2.1.2.2.2.2.2.2.2.2.1) hq hv hcl ?_
      refine lv_astore (lv' := [(4, .ref q9), (0, .ref (ad g 12 0)), (1, .int x1), (2, .int x2), (3, .ref (ad g 34 0))]) hx hb dL_time_13 hl (by decide) rfl (fun ls hl => ?_)
      refine lv_iconst (v := 1) hx hb dL_time_15 (by decide) ?_
      obtain ⟨hf, hm⟩ := prinj hf
      exact e_i X hr (hW.same hm.symm) hf dL_time_16
    · replace hf := ite_f hf h0
      by_cases h1 : E_ = "java/lang/IllegalArgumentException"
      · replace hf := ite_t hf h1
        subst h1
        refine vx_catch (name := "java/lang/IllegalArgumentException") X.2.2.1 [⟨0, 10, 13, 13⟩] ⟨0, 10, 17, 15⟩ [] (by rw [hxt]; rfl) (fun z hz => by rcases List.mem_singleton.mp hz with rfl; exact Or.inr ⟨by decide, "java/lang/IndexOutOfBoundsException", X.2.2.2.1 _ mw_632, X.2.2.2.2.2.2.1.2.2.2.2.2.2.2.2.2.2.2.2.2.1⟩) (by decide) (by decide) (X.2.2.2.1 _ mw_633) (va_Nw.use rfl X.2.2.2.2.2.2.1.2.2.2.2.2.2.1) hq hv hcl ?_
        refine lv_astore (lv' := [(4, .ref q9), (0, .ref (ad g 12 0)), (1, .int x1), (2, .int x2), (3, .ref (ad g 34 0))]) hx hb dL_time_17 hl (by decide) rfl (fun ls hl => ?_)
        refine lv_iconst (v := 2) hx hb dL_time_19 (by decide) ?_
        obtain ⟨hf, hm⟩ := prinj hf
        exact e_i X hr (hW.same hm.symm) hf dL_time_20
      · replace hf := ite_f hf h1
        exact (no_some hf).elim
  · refine k_xi_r X hW (kx_V (As := [.int x1, .int x2]) (rest := [.int 0, .ref (ad g 34 0)]) X hW hml hl.1 (c_X5_time l g hDW hst _ _ mm (.inr r) m1 e1) (r_recv X hW 12 0 (by decide) (by decide) rfl rfl) ⟨mw_756, kw_X5_time⟩ ⟨⟨rfl, rfl⟩, ko_X5_time, ⟨Nat.le_of_ble_eq_true rfl, Nat.le_of_ble_eq_true rfl⟩⟩ rfl rfl (Nat.le_of_ble_eq_true rfl) dL_time_5 ⟨Nat.le_of_ble_eq_true rfl, Nat.le_of_ble_eq_true rfl⟩) (fun H locs hW => ?_)
    refine lv_i2l hx hb dL_time_8 (v := r.toInt64) rfl ?_
    refine r_last X hW vp01 dL_time_9 (fun H locs hW => ?_)
    refine lv_goto (tgt := 21) hx hb dL_time_10 (by decide) ?_
    refine lv_iconst (v := 0) hx hb dL_time_21 (by decide) ?_
    obtain ⟨hf, hm⟩ := prinj hf
    exact e_i X hr (hW.same hm.symm) hf dL_time_22
set_option maxRecDepth 100000 in
set_option maxHeartbeats 4000000 in
theorem c_L_balance (l : Launch) (g : gG) (hDW : DW g) (hst : l.stackTraces = false) (x1 : Int32) (mm : gM) (r0 : Int32) (mZ : gM) (hf : fL_balance x1 mm = some (r0, mZ)) : Met l yL_balance (Cond.codeWith yL_balance cL_balance 4 (some .int) [(0, 9, 12, 15), (0, 9, 15, 33)] :: ALLW) rm_L_balance (CPre g mm [.ref (ad g 12 0), .int x1, .ref (ad g 34 0)]) (CI g mZ r0) 2 12 (gA g) := by
  refine va_MetW (cc := cL_balance) (maxL := 4) (ret := (some .int)) (hh := [(0, 9, 12, 15), (0, 9, 15, 33)]) (by decide) rfl ?_
  intro p e s m args below meth c s₁ B hml hv
  obtain ⟨ha, hFx, hP0, hlo⟩ := hv
  have X : Cx g p s m args c meth RL cL_balance := Cx_ofW hDW hFx hlo B
  have hxt := vx_table (x := yL_balance) B (atoms_spec (ws := Cond.codeWith yL_balance cL_balance 4 (some .int) [(0, 9, 12, 15), (0, 9, 15, 33)] :: ALLW) B.pre _ List.mem_cons_self)
  have hx := X.1
  have hb := X.2.1
  have hr := B.returns
  have hlocks := X.2.2.2.2.2.2.2
  have hW : Wd g mm s s.heap [] := ⟨hP0, va_S.rf⟩
  rw [ha, lg_entry_eq]
  have hl := lv_entry ([.ref (ad g 12 0), .int x1, .ref (ad g 34 0)] : List Value) (n := 4) (Nat.le_of_ble_eq_true rfl)
  generalize (lg_sl ([.ref (ad g 12 0), .int x1, .ref (ad g 34 0)] : List Value) ++ List.replicate (4 - (lg_sl ([.ref (ad g 12 0), .int x1, .ref (ad g 34 0)] : List Value)).length) Slot.unset).toArray = ls at hl ⊢
  have hl : lv_has ls 4 [(0, .ref (ad g 12 0)), (1, .int x1), (2, .ref (ad g 34 0))] := hl
  rw [← ha]
  show W p l e rm_L_balance s m args below meth c s.heap [] 0 0 (MQ below (CI g mZ r0) args s 2 12 (gA g)) (F0 m 0 ls [])
  unfold fL_balance at hf
  refine lv_aload_n hx hb dL_balance_0 rfl (lv_at hl 2 rfl) ?_
  refine lv_iconst (v := 0) hx hb dL_balance_1 (by decide) ?_
  refine lv_aload_n hx hb dL_balance_2 rfl (lv_at hl 0 rfl) ?_
  refine lv_iload_n hx hb dL_balance_3 rfl (lv_at hl 1 rfl) ?_
  rcases bx2_ex hf with ⟨E_, m1, e1, hf⟩ | ⟨r, m1, e1, hf⟩
  · refine k_xi_x X hW (kx_V (As := [.int x1]) (rest := [.int 0, .ref (ad g 34 0)]) X hW hml hl.1 (c_X5_balance l g hDW hst _ mm (.inl E_) m1 e1) (r_recv X hW 12 0 (by decide) (by decide) rfl rfl) ⟨mw_768, kw_X5_balance⟩ ⟨⟨rfl, rfl⟩, ko_X5_balance, ⟨Nat.le_of_ble_eq_true rfl, Nat.le_of_ble_eq_true rfl⟩⟩ rfl rfl (Nat.le_of_ble_eq_true rfl) dL_balance_4 ⟨Nat.le_of_ble_eq_true rfl, Nat.le_of_ble_eq_true rfl⟩) (fun ce q9 H locs hW hq hv hcl => ?_)
    by_cases h0 : E_ = "java/lang/IllegalArgumentException"
    · replace hf := ite_t hf h0
      subst h0
      refine vx_catch (name := "java/lang/IllegalArgumentException") X.2.2.1 [] ⟨0, 9, 12, 15⟩ [⟨0, 9, 15, 33⟩] (by rw [hxt]; rfl) (fun z hz => nomatch hz) (by decide) (by decide) (X.2.2.2.1 _ mw_633) (va_Nw.use rfl X.2.2.2.2.2.2.1.2.2.2.2.2.2.1) hq hv hcl ?_
      refine lv_astore_n (lv' := [(3, .ref q9), (0, .ref (ad g 12 0)), (1, .int x1), (2, .ref (ad g 34 0))]) hx hb dL_balance_12 rfl hl (by decide) rfl (fun ls hl => ?_)
      refine lv_iconst (v := 1) hx hb dL_balance_13 (by decide) ?_
      obtain ⟨hf, hm⟩ := prinj hf
      exact e_i X hr (hW.same hm.symm) hf dL_balance_14
    · replace hf := ite_f hf h0
      by_cases h1 : E_ = "java/lang/IllegalStateException"
      · replace hf := ite_t hf h1
        subst h1
        refine vx_catch (name := "java/lang/IllegalStateException") X.2.2.1 [⟨0, 9, 12, 15⟩] ⟨0, 9, 15, 33⟩ [] (by rw [hxt]; rfl) (fun z hz => by rcases List.mem_singleton.mp hz with rfl; exact Or.inr ⟨by decide, "java/lang/IllegalArgumentException", X.2.2.2.1 _ mw_633, X.2.2.2.2.2.2.1.2.2.2.2.2.2.2.2.2.2.2.2.2.2.1⟩) (by decide) (by decide) (X.2.2.2.1 _ mw_767) (va_Nw.use rfl X.2.2.2.2.2.2.1.2.2.2.2.2.2.2.1) hq hv hcl ?_
        refine lv_astore_n (lv' := [(3, .ref q9), (0, .ref (ad g 12 0)), (1, .int x1), (2, .ref (ad g 34 0))]) hx hb dL_balance_15 rfl hl (by decide) rfl (fun ls hl => ?_)
        refine lv_iconst (v := 2) hx hb dL_balance_16 (by decide) ?_
        obtain ⟨hf, hm⟩ := prinj hf
        exact e_i X hr (hW.same hm.symm) hf dL_balance_17
      · replace hf := ite_f hf h1
        exact (no_some hf).elim
  · refine k_xi_r X hW (kx_V (As := [.int x1]) (rest := [.int 0, .ref (ad g 34 0)]) X hW hml hl.1 (c_X5_balance l g hDW hst _ mm (.inr r) m1 e1) (r_recv X hW 12 0 (by decide) (by decide) rfl rfl) ⟨mw_768, kw_X5_balance⟩ ⟨⟨rfl, rfl⟩, ko_X5_balance, ⟨Nat.le_of_ble_eq_true rfl, Nat.le_of_ble_eq_true rfl⟩⟩ rfl rfl (Nat.le_of_ble_eq_true rfl) dL_balance_4 ⟨Nat.le_of_ble_eq_true rfl, Nat.le_of_ble_eq_true rfl⟩) (fun H locs hW => ?_)
    refine lv_i2l hx hb dL_balance_7 (v := r.toInt64) rfl ?_
    refine r_last X hW vp01 dL_balance_8 (fun H locs hW => ?_)
    refine lv_goto (tgt := 18) hx hb dL_balance_9 (by decide) ?_
    refine lv_iconst (v := 0) hx hb dL_balance_18 (by decide) ?_
    obtain ⟨hf, hm⟩ := prinj hf
    exact e_i X hr (hW.same hm.symm) hf dL_balance_19
set_option maxRecDepth 100000 in
set_option maxHeartbeats 4000000 in
theorem c_L_set (l : Launch) (g : gG) (hDW : DW g) (hst : l.stackTraces = false) (x1 : Int32) (x2 : Int32) (mm : gM) (r0 : Int32) (mZ : gM) (hf : fL_set x1 x2 mm = some (r0, mZ)) : Met l yL_set (Cond.codeWith yL_set cL_set 5 (some .int) [(0, 10, 13, 13), (0, 10, 17, 15)] :: ALLW) rm_L_set (CPre g mm [.ref (ad g 12 0), .int x1, .int x2, .ref (ad g 34 0)]) (CI g mZ r0) 2 12 (gA g) := by
  refine va_MetW (cc := cL_set) (maxL := 5) (ret := (some .int)) (hh := [(0, 10, 13, 13), (0, 10, 17, 15)]) (by decide) rfl ?_
  intro p e s m args below meth c s₁ B hml hv
  obtain ⟨ha, hFx, hP0, hlo⟩ := hv
  have X : Cx g p s m args c meth RL cL_set := Cx_ofW hDW hFx hlo B
  have hxt := vx_table (x := yL_set) B (atoms_spec (ws := Cond.codeWith yL_set cL_set 5 (some .int) [(0, 10, 13, 13), (0, 10, 17, 15)] :: ALLW) B.pre _ List.mem_cons_self)
  have hx := X.1
  have hb := X.2.1
  have hr := B.returns
  have hlocks := X.2.2.2.2.2.2.2
  have hW : Wd g mm s s.heap [] := ⟨hP0, va_S.rf⟩
  rw [ha, lg_entry_eq]
  have hl := lv_entry ([.ref (ad g 12 0), .int x1, .int x2, .ref (ad g 34 0)] : List Value) (n := 5) (Nat.le_of_ble_eq_true rfl)
  generalize (lg_sl ([.ref (ad g 12 0), .int x1, .int x2, .ref (ad g 34 0)] : List Value) ++ List.replicate (5 - (lg_sl ([.ref (ad g 12 0), .int x1, .int x2, .ref (ad g 34 0)] : List Value)).length) Slot.unset).toArray = ls at hl ⊢
  have hl : lv_has ls 5 [(0, .ref (ad g 12 0)), (1, .int x1), (2, .int x2), (3, .ref (ad g 34 0))] := hl
  rw [← ha]
  show W p l e rm_L_set s m args below meth c s.heap [] 0 0 (MQ below (CI g mZ r0) args s 2 12 (gA g)) (F0 m 0 ls [])
  unfold fL_set at hf
  refine lv_aload_n hx hb dL_set_0 rfl (lv_at hl 3 rfl) ?_
  refine lv_iconst (v := 0) hx hb dL_set_1 (by decide) ?_
  refine lv_aload_n hx hb dL_set_2 rfl (lv_at hl 0 rfl) ?_
  refine lv_iload_n hx hb dL_set_3 rfl (lv_at hl 1 rfl) ?_
  refine lv_iload_n hx hb dL_set_4 rfl (lv_at hl 2 rfl) ?_
  rcases bx2_ex hf with ⟨E_, m1, e1, hf⟩ | ⟨r, m1, e1, hf⟩
  · refine k_xi_x X hW (kx_V (As := [.int x1, .int x2]) (rest := [.int 0, .ref (ad g 34 0)]) X hW hml hl.1 (c_X5_set l g hDW hst _ _ mm (.inl E_) m1 e1) (r_recv X hW 12 0 (by decide) (by decide) rfl rfl) ⟨mw_795, kw_X5_set⟩ ⟨⟨rfl, rfl⟩, ko_X5_set, ⟨Nat.le_of_ble_eq_true rfl, Nat.le_of_ble_eq_true rfl⟩⟩ rfl rfl (Nat.le_of_ble_eq_true rfl) dL_set_5 ⟨Nat.le_of_ble_eq_true rfl, Nat.le_of_ble_eq_true rfl⟩) (fun ce q9 H locs hW hq hv hcl => ?_)
    by_cases h0 : E_ = "java/lang/IndexOutOfBoundsException"
    · replace hf := ite_t hf h0
      subst h0
      refine vx_catch (name := "java/lang/IndexOutOfBoundsException") X.2.2.1 [] ⟨0, 10, 13, 13⟩ [⟨0, 10, 17, 15⟩] (by rw [hxt]; rfl) (fun z hz => nomatch hz) (by decide) (by decide) (X.2.2.2.1 _ mw_632) (va_Nw.use rfl X.2.2.2.2.2.2.1.2.2.2.2.2.2.2.2.1) hq hv hcl ?_
      refine lv_astore (lv' := [(4, .ref q9), (0, .ref (ad g 12 0)), (1, .int x1), (2, .int x2), (3, .ref (ad g 34 0))]) hx hb dL_set_13 hl (by decide) rfl (fun ls hl => ?_)
      refine lv_iconst (v := 1) hx hb dL_set_15 (by decide) ?_
      obtain ⟨hf, hm⟩ := prinj hf
      exact e_i X hr (hW.same hm.symm) hf dL_set_16
    · replace hf := ite_f hf h0
      by_cases h1 : E_ = "java/lang/IllegalArgumentException"
      · replace hf := ite_t hf h1
        subst h1
        refine vx_catch (name := "java/lang/IllegalArgumentException") X.2.2.1 [⟨0, 10, 13, 13⟩] ⟨0, 10, 17, 15⟩ [] (by rw [hxt]; rfl) (fun z hz => by rcases List.mem_singleton.mp hz with rfl; exact Or.inr ⟨by decide, "java/lang/IndexOutOfBoundsException", X.2.2.2.1 _ mw_632, X.2.2.2.2.2.2.1.2.2.2.2.2.2.2.2.2.2.2.2.2.1⟩) (by decide) (by decide) (X.2.2.2.1 _ mw_633) (va_Nw.use rfl X.2.2.2.2.2.2.1.2.2.2.2.2.2.1) hq hv hcl ?_
        refine lv_astore (lv' := [(4, .ref q9), (0, .ref (ad g 12 0)), (1, .int x1), (2, .int x2), (3, .ref (ad g 34 0))]) hx hb dL_set_17 hl (by decide) rfl (fun ls hl => ?_)
        refine lv_iconst (v := 2) hx hb dL_set_19 (by decide) ?_
        obtain ⟨hf, hm⟩ := prinj hf
        exact e_i X hr (hW.same hm.symm) hf dL_set_20
      · replace hf := ite_f hf h1
        exact (no_some hf).elim
  · refine k_xi_r X hW (kx_V (As := [.int x1, .int x2]) (rest := [.int 0, .ref (ad g 34 0)]) X hW hml hl.1 (c_X5_set l g hDW hst _ _ mm (.inr r) m1 e1) (r_recv X hW 12 0 (by decide) (by decide) rfl rfl) ⟨mw_795, kw_X5_set⟩ ⟨⟨rfl, rfl⟩, ko_X5_set, ⟨Nat.le_of_ble_eq_true rfl, Nat.le_of_ble_eq_true rfl⟩⟩ rfl rfl (Nat.le_of_ble_eq_true rfl) dL_set_5 ⟨Nat.le_of_ble_eq_true rfl, Nat.le_of_ble_eq_true rfl⟩) (fun H locs hW => ?_)
    refine lv_i2l hx hb dL_set_8 (v := r.toInt64) rfl ?_
    refine r_last X hW vp01 dL_set_9 (fun H locs hW => ?_)
    refine lv_goto (tgt := 21) hx hb dL_set_10 (by decide) ?_
    refine lv_iconst (v := 0) hx hb dL_set_21 (by decide) ?_
    obtain ⟨hf, hm⟩ := prinj hf
    exact e_i X hr (hW.same hm.symm) hf dL_set_22
set_option maxRecDepth 100000 in
set_option maxHeartbeats 4000000 in
theorem c_L_pass (l : Launch) (g : gG) (hDW : DW g) (hst : l.stackTraces = false) (x1 : Int32) (mm : gM) (r0 : Int32) (mZ : gM) (hf : fL_pass x1 mm = some (r0, mZ)) : Met l yL_pass (Cond.codeWith yL_pass cL_pass 4 (some .int) [(0, 9, 12, 15), (0, 9, 15, 33)] :: ALLW) rm_L_pass (CPre g mm [.ref (ad g 12 0), .int x1, .ref (ad g 34 0)]) (CI g mZ r0) 1 6 (gA g) := by
  refine va_MetW (cc := cL_pass) (maxL := 4) (ret := (some .int)) (hh := [(0, 9, 12, 15), (0, 9, 15, 33)]) (by decide) rfl ?_
  intro p e s m args below meth c s₁ B hml hv
  obtain ⟨ha, hFx, hP0, hlo⟩ := hv
  have X : Cx g p s m args c meth RL cL_pass := Cx_ofW hDW hFx hlo B
  have hxt := vx_table (x := yL_pass) B (atoms_spec (ws := Cond.codeWith yL_pass cL_pass 4 (some .int) [(0, 9, 12, 15), (0, 9, 15, 33)] :: ALLW) B.pre _ List.mem_cons_self)
  have hx := X.1
  have hb := X.2.1
  have hr := B.returns
  have hlocks := X.2.2.2.2.2.2.2
  have hW : Wd g mm s s.heap [] := ⟨hP0, va_S.rf⟩
  rw [ha, lg_entry_eq]
  have hl := lv_entry ([.ref (ad g 12 0), .int x1, .ref (ad g 34 0)] : List Value) (n := 4) (Nat.le_of_ble_eq_true rfl)
  generalize (lg_sl ([.ref (ad g 12 0), .int x1, .ref (ad g 34 0)] : List Value) ++ List.replicate (4 - (lg_sl ([.ref (ad g 12 0), .int x1, .ref (ad g 34 0)] : List Value)).length) Slot.unset).toArray = ls at hl ⊢
  have hl : lv_has ls 4 [(0, .ref (ad g 12 0)), (1, .int x1), (2, .ref (ad g 34 0))] := hl
  rw [← ha]
  show W p l e rm_L_pass s m args below meth c s.heap [] 0 0 (MQ below (CI g mZ r0) args s 1 6 (gA g)) (F0 m 0 ls [])
  unfold fL_pass at hf
  refine lv_aload_n hx hb dL_pass_0 rfl (lv_at hl 2 rfl) ?_
  refine lv_iconst (v := 0) hx hb dL_pass_1 (by decide) ?_
  refine lv_aload_n hx hb dL_pass_2 rfl (lv_at hl 0 rfl) ?_
  refine lv_iload_n hx hb dL_pass_3 rfl (lv_at hl 1 rfl) ?_
  rcases bx2_ex hf with ⟨E_, m1, e1, hf⟩ | ⟨r, m1, e1, hf⟩
  · refine k_xi_x X hW (kx_V (As := [.int x1]) (rest := [.int 0, .ref (ad g 34 0)]) X hW hml hl.1 (c_X5_pass l g hDW hst _ mm (.inl E_) m1 e1) (r_recv X hW 12 0 (by decide) (by decide) rfl rfl) ⟨mw_811, kw_X5_pass⟩ ⟨⟨rfl, rfl⟩, ko_X5_pass, ⟨Nat.le_of_ble_eq_true rfl, Nat.le_of_ble_eq_true rfl⟩⟩ rfl rfl (Nat.le_of_ble_eq_true rfl) dL_pass_4 ⟨Nat.le_of_ble_eq_true rfl, Nat.le_of_ble_eq_true rfl⟩) (fun ce q9 H locs hW hq hv hcl => ?_)
    by_cases h0 : E_ = "java/lang/IllegalArgumentException"
    · replace hf := ite_t hf h0
      subst h0
      refine vx_catch (name := "java/lang/IllegalArgumentException") X.2.2.1 [] ⟨0, 9, 12, 15⟩ [⟨0, 9, 15, 33⟩] (by rw [hxt]; rfl) (fun z hz => nomatch hz) (by decide) (by decide) (X.2.2.2.1 _ mw_633) (va_Nw.use rfl X.2.2.2.2.2.2.1.2.2.2.2.2.2.1) hq hv hcl ?_
      refine lv_astore_n (lv' := [(3, .ref q9), (0, .ref (ad g 12 0)), (1, .int x1), (2, .ref (ad g 34 0))]) hx hb dL_pass_12 rfl hl (by decide) rfl (fun ls hl => ?_)
      refine lv_iconst (v := 1) hx hb dL_pass_13 (by decide) ?_
      obtain ⟨hf, hm⟩ := prinj hf
      exact e_i X hr (hW.same hm.symm) hf dL_pass_14
    · replace hf := ite_f hf h0
      by_cases h1 : E_ = "java/lang/IllegalStateException"
      · replace hf := ite_t hf h1
        subst h1
        refine vx_catch (name := "java/lang/IllegalStateException") X.2.2.1 [⟨0, 9, 12, 15⟩] ⟨0, 9, 15, 33⟩ [] (by rw [hxt]; rfl) (fun z hz => by rcases List.mem_singleton.mp hz with rfl; exact Or.inr ⟨by decide, "java/lang/IllegalArgumentException", X.2.2.2.1 _ mw_633, X.2.2.2.2.2.2.1.2.2.2.2.2.2.2.2.2.2.2.2.2.2.1⟩) (by decide) (by decide) (X.2.2.2.1 _ mw_767) (va_Nw.use rfl X.2.2.2.2.2.2.1.2.2.2.2.2.2.2.1) hq hv hcl ?_
        refine lv_astore_n (lv' := [(3, .ref q9), (0, .ref (ad g 12 0)), (1, .int x1), (2, .ref (ad g 34 0))]) hx hb dL_pass_15 rfl hl (by decide) rfl (fun ls hl => ?_)
        refine lv_iconst (v := 2) hx hb dL_pass_16 (by decide) ?_
        obtain ⟨hf, hm⟩ := prinj hf
        exact e_i X hr (hW.same hm.symm) hf dL_pass_17
      · replace hf := ite_f hf h1
        exact (no_some hf).elim
  · refine k_xi_r X hW (kx_V (As := [.int x1]) (rest := [.int 0, .ref (ad g 34 0)]) X hW hml hl.1 (c_X5_pass l g hDW hst _ mm (.inr r) m1 e1) (r_recv X hW 12 0 (by decide) (by decide) rfl rfl) ⟨mw_811, kw_X5_pass⟩ ⟨⟨rfl, rfl⟩, ko_X5_pass, ⟨Nat.le_of_ble_eq_true rfl, Nat.le_of_ble_eq_true rfl⟩⟩ rfl rfl (Nat.le_of_ble_eq_true rfl) dL_pass_4 ⟨Nat.le_of_ble_eq_true rfl, Nat.le_of_ble_eq_true rfl⟩) (fun H locs hW => ?_)
    refine lv_i2l hx hb dL_pass_7 (v := r.toInt64) rfl ?_
    refine r_last X hW vp01 dL_pass_8 (fun H locs hW => ?_)
    refine lv_goto (tgt := 18) hx hb dL_pass_9 (by decide) ?_
    refine lv_iconst (v := 0) hx hb dL_pass_18 (by decide) ?_
    obtain ⟨hf, hm⟩ := prinj hf
    exact e_i X hr (hW.same hm.symm) hf dL_pass_19
set_option maxRecDepth 100000 in
set_option maxHeartbeats 4000000 in
theorem c_L_append (l : Launch) (g : gG) (hDW : DW g) (hst : l.stackTraces = false) (x1 : Int32) (mm : gM) (r0 : Int32) (mZ : gM) (hf : fL_append x1 mm = some (r0, mZ)) : Met l yL_append (Cond.codeWith yL_append cL_append 4 (some .int) [(0, 9, 12, 15), (0, 9, 15, 33)] :: ALLW) rm_L_append (CPre g mm [.ref (ad g 12 0), .int x1, .ref (ad g 34 0)]) (CI g mZ r0) 1 6 (gA g) := by
  refine va_MetW (cc := cL_append) (maxL := 4) (ret := (some .int)) (hh := [(0, 9, 12, 15), (0, 9, 15, 33)]) (by decide) rfl ?_
  intro p e s m args below meth c s₁ B hml hv
  obtain ⟨ha, hFx, hP0, hlo⟩ := hv
  have X : Cx g p s m args c meth RL cL_append := Cx_ofW hDW hFx hlo B
  have hxt := vx_table (x := yL_append) B (atoms_spec (ws := Cond.codeWith yL_append cL_append 4 (some .int) [(0, 9, 12, 15), (0, 9, 15, 33)] :: ALLW) B.pre _ List.mem_cons_self)
  have hx := X.1
  have hb := X.2.1
  have hr := B.returns
  have hlocks := X.2.2.2.2.2.2.2
  have hW : Wd g mm s s.heap [] := ⟨hP0, va_S.rf⟩
  rw [ha, lg_entry_eq]
  have hl := lv_entry ([.ref (ad g 12 0), .int x1, .ref (ad g 34 0)] : List Value) (n := 4) (Nat.le_of_ble_eq_true rfl)
  generalize (lg_sl ([.ref (ad g 12 0), .int x1, .ref (ad g 34 0)] : List Value) ++ List.replicate (4 - (lg_sl ([.ref (ad g 12 0), .int x1, .ref (ad g 34 0)] : List Value)).length) Slot.unset).toArray = ls at hl ⊢
  have hl : lv_has ls 4 [(0, .ref (ad g 12 0)), (1, .int x1), (2, .ref (ad g 34 0))] := hl
  rw [← ha]
  show W p l e rm_L_append s m args below meth c s.heap [] 0 0 (MQ below (CI g mZ r0) args s 1 6 (gA g)) (F0 m 0 ls [])
  unfold fL_append at hf
  refine lv_aload_n hx hb dL_append_0 rfl (lv_at hl 2 rfl) ?_
  refine lv_iconst (v := 0) hx hb dL_append_1 (by decide) ?_
  refine lv_aload_n hx hb dL_append_2 rfl (lv_at hl 0 rfl) ?_
  refine lv_iload_n hx hb dL_append_3 rfl (lv_at hl 1 rfl) ?_
  rcases bx2_ex hf with ⟨E_, m1, e1, hf⟩ | ⟨r, m1, e1, hf⟩
  · refine k_xi_x X hW (kx_V (As := [.int x1]) (rest := [.int 0, .ref (ad g 34 0)]) X hW hml hl.1 (c_X5_append l g hDW hst _ mm (.inl E_) m1 e1) (r_recv X hW 12 0 (by decide) (by decide) rfl rfl) ⟨mw_832, kw_X5_append⟩ ⟨⟨rfl, rfl⟩, ko_X5_append, ⟨Nat.le_of_ble_eq_true rfl, Nat.le_of_ble_eq_true rfl⟩⟩ rfl rfl (Nat.le_of_ble_eq_true rfl) dL_append_4 ⟨Nat.le_of_ble_eq_true rfl, Nat.le_of_ble_eq_true rfl⟩) (fun ce q9 H locs hW hq hv hcl => ?_)
    by_cases h0 : E_ = "java/lang/IllegalArgumentException"
    · replace hf := ite_t hf h0
      subst h0
      refine vx_catch (name := "java/lang/IllegalArgumentException") X.2.2.1 [] ⟨0, 9, 12, 15⟩ [⟨0, 9, 15, 33⟩] (by rw [hxt]; rfl) (fun z hz => nomatch hz) (by decide) (by decide) (X.2.2.2.1 _ mw_633) (va_Nw.use rfl X.2.2.2.2.2.2.1.2.2.2.2.2.2.1) hq hv hcl ?_
      refine lv_astore_n (lv' := [(3, .ref q9), (0, .ref (ad g 12 0)), (1, .int x1), (2, .ref (ad g 34 0))]) hx hb dL_append_12 rfl hl (by decide) rfl (fun ls hl => ?_)
      refine lv_iconst (v := 1) hx hb dL_append_13 (by decide) ?_
      obtain ⟨hf, hm⟩ := prinj hf
      exact e_i X hr (hW.same hm.symm) hf dL_append_14
    · replace hf := ite_f hf h0
      by_cases h1 : E_ = "java/lang/IllegalStateException"
      · replace hf := ite_t hf h1
        subst h1
        refine vx_catch (name := "java/lang/IllegalStateException") X.2.2.1 [⟨0, 9, 12, 15⟩] ⟨0, 9, 15, 33⟩ [] (by rw [hxt]; rfl) (fun z hz => by rcases List.mem_singleton.mp hz with rfl; exact Or.inr ⟨by decide, "java/lang/IllegalArgumentException", X.2.2.2.1 _ mw_633, X.2.2.2.2.2.2.1.2.2.2.2.2.2.2.2.2.2.2.2.2.2.1⟩) (by decide) (by decide) (X.2.2.2.1 _ mw_767) (va_Nw.use rfl X.2.2.2.2.2.2.1.2.2.2.2.2.2.2.1) hq hv hcl ?_
        refine lv_astore_n (lv' := [(3, .ref q9), (0, .ref (ad g 12 0)), (1, .int x1), (2, .ref (ad g 34 0))]) hx hb dL_append_15 rfl hl (by decide) rfl (fun ls hl => ?_)
        refine lv_iconst (v := 2) hx hb dL_append_16 (by decide) ?_
        obtain ⟨hf, hm⟩ := prinj hf
        exact e_i X hr (hW.same hm.symm) hf dL_append_17
      · replace hf := ite_f hf h1
        exact (no_some hf).elim
  · refine k_xi_r X hW (kx_V (As := [.int x1]) (rest := [.int 0, .ref (ad g 34 0)]) X hW hml hl.1 (c_X5_append l g hDW hst _ mm (.inr r) m1 e1) (r_recv X hW 12 0 (by decide) (by decide) rfl rfl) ⟨mw_832, kw_X5_append⟩ ⟨⟨rfl, rfl⟩, ko_X5_append, ⟨Nat.le_of_ble_eq_true rfl, Nat.le_of_ble_eq_true rfl⟩⟩ rfl rfl (Nat.le_of_ble_eq_true rfl) dL_append_4 ⟨Nat.le_of_ble_eq_true rfl, Nat.le_of_ble_eq_true rfl⟩) (fun H locs hW => ?_)
    refine lv_i2l hx hb dL_append_7 (v := r.toInt64) rfl ?_
    refine r_last X hW vp01 dL_append_8 (fun H locs hW => ?_)
    refine lv_goto (tgt := 18) hx hb dL_append_9 (by decide) ?_
    refine lv_iconst (v := 0) hx hb dL_append_18 (by decide) ?_
    obtain ⟨hf, hm⟩ := prinj hf
    exact e_i X hr (hW.same hm.symm) hf dL_append_19
set_option maxRecDepth 100000 in
set_option maxHeartbeats 4000000 in
theorem c_L_load (l : Launch) (g : gG) (hDW : DW g) (hst : l.stackTraces = false) (mm : gM) (r0 : Int32) (mZ : gM) (hf : fL_load mm = some (r0, mZ)) : Met l yL_load (Cond.codeWith yL_load cL_load 3 (some .int) [(0, 8, 11, 15)] :: ALLW) rm_L_load (CPre g mm [.ref (ad g 12 0), .ref (ad g 34 0)]) (CI g mZ r0) 1 6 (gA g) := by
  refine va_MetW (cc := cL_load) (maxL := 3) (ret := (some .int)) (hh := [(0, 8, 11, 15)]) (by decide) rfl ?_
  intro p e s m args below meth c s₁ B hml hv
  obtain ⟨ha, hFx, hP0, hlo⟩ := hv
  have X : Cx g p s m args c meth RL cL_load := Cx_ofW hDW hFx hlo B
  have hxt := vx_table (x := yL_load) B (atoms_spec (ws := Cond.codeWith yL_load cL_load 3 (some .int) [(0, 8, 11, 15)] :: ALLW) B.pre _ List.mem_cons_self)
  have hx := X.1
  have hb := X.2.1
  have hr := B.returns
  have hlocks := X.2.2.2.2.2.2.2
  have hW : Wd g mm s s.heap [] := ⟨hP0, va_S.rf⟩
  rw [ha, lg_entry_eq]
  have hl := lv_entry ([.ref (ad g 12 0), .ref (ad g 34 0)] : List Value) (n := 3) (Nat.le_of_ble_eq_true rfl)
  generalize (lg_sl ([.ref (ad g 12 0), .ref (ad g 34 0)] : List Value) ++ List.replicate (3 - (lg_sl ([.ref (ad g 12 0), .ref (ad g 34 0)] : List Value)).length) Slot.unset).toArray = ls at hl ⊢
  have hl : lv_has ls 3 [(0, .ref (ad g 12 0)), (1, .ref (ad g 34 0))] := hl
  rw [← ha]
  show W p l e rm_L_load s m args below meth c s.heap [] 0 0 (MQ below (CI g mZ r0) args s 1 6 (gA g)) (F0 m 0 ls [])
  unfold fL_load at hf
  refine lv_aload_n hx hb dL_load_0 rfl (lv_at hl 1 rfl) ?_
  refine lv_iconst (v := 0) hx hb dL_load_1 (by decide) ?_
  refine lv_aload_n hx hb dL_load_2 rfl (lv_at hl 0 rfl) ?_
  rcases bx2_ex hf with ⟨E_, m1, e1, hf⟩ | ⟨r, m1, e1, hf⟩
  · refine k_xi_x X hW (kx_V (As := []) (rest := [.int 0, .ref (ad g 34 0)]) X hW hml hl.1 (c_X5_load l g hDW hst  mm (.inl E_) m1 e1) (r_recv X hW 12 0 (by decide) (by decide) rfl rfl) ⟨mw_841, kw_X5_load⟩ ⟨⟨rfl, rfl⟩, ko_X5_load, ⟨Nat.le_of_ble_eq_true rfl, Nat.le_of_ble_eq_true rfl⟩⟩ rfl rfl (Nat.le_of_ble_eq_true rfl) dL_load_3 ⟨Nat.le_of_ble_eq_true rfl, Nat.le_of_ble_eq_true rfl⟩) (fun ce q9 H locs hW hq hv hcl => ?_)
    by_cases h0 : E_ = "java/lang/IllegalArgumentException"
    · replace hf := ite_t hf h0
      subst h0
      refine vx_catch (name := "java/lang/IllegalArgumentException") X.2.2.1 [] ⟨0, 8, 11, 15⟩ [] (by rw [hxt]; rfl) (fun z hz => nomatch hz) (by decide) (by decide) (X.2.2.2.1 _ mw_633) (va_Nw.use rfl X.2.2.2.2.2.2.1.2.2.2.2.2.2.1) hq hv hcl ?_
      refine lv_astore_n (lv' := [(2, .ref q9), (0, .ref (ad g 12 0)), (1, .ref (ad g 34 0))]) hx hb dL_load_11 rfl hl (by decide) rfl (fun ls hl => ?_)
      refine lv_iconst (v := 1) hx hb dL_load_12 (by decide) ?_
      obtain ⟨hf, hm⟩ := prinj hf
      exact e_i X hr (hW.same hm.symm) hf dL_load_13
    · replace hf := ite_f hf h0
      exact (no_some hf).elim
  · refine k_xi_r X hW (kx_V (As := []) (rest := [.int 0, .ref (ad g 34 0)]) X hW hml hl.1 (c_X5_load l g hDW hst  mm (.inr r) m1 e1) (r_recv X hW 12 0 (by decide) (by decide) rfl rfl) ⟨mw_841, kw_X5_load⟩ ⟨⟨rfl, rfl⟩, ko_X5_load, ⟨Nat.le_of_ble_eq_true rfl, Nat.le_of_ble_eq_true rfl⟩⟩ rfl rfl (Nat.le_of_ble_eq_true rfl) dL_load_3 ⟨Nat.le_of_ble_eq_true rfl, Nat.le_of_ble_eq_true rfl⟩) (fun H locs hW => ?_)
    refine lv_i2l hx hb dL_load_6 (v := r.toInt64) rfl ?_
    refine r_last X hW vp01 dL_load_7 (fun H locs hW => ?_)
    refine lv_goto (tgt := 14) hx hb dL_load_8 (by decide) ?_
    refine lv_iconst (v := 0) hx hb dL_load_14 (by decide) ?_
    obtain ⟨hf, hm⟩ := prinj hf
    exact e_i X hr (hW.same hm.symm) hf dL_load_15
set_option maxRecDepth 100000 in
set_option maxHeartbeats 4000000 in
theorem c_L_keep (l : Launch) (g : gG) (hDW : DW g) (hst : l.stackTraces = false) (x1 : Int32) (mm : gM) (r0 : Int32) (mZ : gM) (hf : fL_keep x1 mm = some (r0, mZ)) : Met l yL_keep (Cond.codeWith yL_keep cL_keep 4 (some .int) [(0, 9, 12, 15)] :: ALLW) rm_L_keep (CPre g mm [.ref (ad g 12 0), .int x1, .ref (ad g 34 0)]) (CI g mZ r0) 1 6 (gA g) := by
  refine va_MetW (cc := cL_keep) (maxL := 4) (ret := (some .int)) (hh := [(0, 9, 12, 15)]) (by decide) rfl ?_
  intro p e s m args below meth c s₁ B hml hv
  obtain ⟨ha, hFx, hP0, hlo⟩ := hv
  have X : Cx g p s m args c meth RL cL_keep := Cx_ofW hDW hFx hlo B
  have hxt := vx_table (x := yL_keep) B (atoms_spec (ws := Cond.codeWith yL_keep cL_keep 4 (some .int) [(0, 9, 12, 15)] :: ALLW) B.pre _ List.mem_cons_self)
  have hx := X.1
  have hb := X.2.1
  have hr := B.returns
  have hlocks := X.2.2.2.2.2.2.2
  have hW : Wd g mm s s.heap [] := ⟨hP0, va_S.rf⟩
  rw [ha, lg_entry_eq]
  have hl := lv_entry ([.ref (ad g 12 0), .int x1, .ref (ad g 34 0)] : List Value) (n := 4) (Nat.le_of_ble_eq_true rfl)
  generalize (lg_sl ([.ref (ad g 12 0), .int x1, .ref (ad g 34 0)] : List Value) ++ List.replicate (4 - (lg_sl ([.ref (ad g 12 0), .int x1, .ref (ad g 34 0)] : List Value)).length) Slot.unset).toArray = ls at hl ⊢
  have hl : lv_has ls 4 [(0, .ref (ad g 12 0)), (1, .int x1), (2, .ref (ad g 34 0))] := hl
  rw [← ha]
  show W p l e rm_L_keep s m args below meth c s.heap [] 0 0 (MQ below (CI g mZ r0) args s 1 6 (gA g)) (F0 m 0 ls [])
  unfold fL_keep at hf
  refine lv_aload_n hx hb dL_keep_0 rfl (lv_at hl 2 rfl) ?_
  refine lv_iconst (v := 0) hx hb dL_keep_1 (by decide) ?_
  refine lv_aload_n hx hb dL_keep_2 rfl (lv_at hl 0 rfl) ?_
  refine lv_iload_n hx hb dL_keep_3 rfl (lv_at hl 1 rfl) ?_
  rcases bx2_ex hf with ⟨E_, m1, e1, hf⟩ | ⟨r, m1, e1, hf⟩
  · refine k_xi_x X hW (kx_V (As := [.int x1]) (rest := [.int 0, .ref (ad g 34 0)]) X hW hml hl.1 (c_X5_keep l g hDW hst _ mm (.inl E_) m1 e1) (r_recv X hW 12 0 (by decide) (by decide) rfl rfl) ⟨mw_853, kw_X5_keep⟩ ⟨⟨rfl, rfl⟩, ko_X5_keep, ⟨Nat.le_of_ble_eq_true rfl, Nat.le_of_ble_eq_true rfl⟩⟩ rfl rfl (Nat.le_of_ble_eq_true rfl) dL_keep_4 ⟨Nat.le_of_ble_eq_true rfl, Nat.le_of_ble_eq_true rfl⟩) (fun ce q9 H locs hW hq hv hcl => ?_)
    by_cases h0 : E_ = "java/lang/IllegalArgumentException"
    · replace hf := ite_t hf h0
      subst h0
      refine vx_catch (name := "java/lang/IllegalArgumentException") X.2.2.1 [] ⟨0, 9, 12, 15⟩ [] (by rw [hxt]; rfl) (fun z hz => nomatch hz) (by decide) (by decide) (X.2.2.2.1 _ mw_633) (va_Nw.use rfl X.2.2.2.2.2.2.1.2.2.2.2.2.2.1) hq hv hcl ?_
      refine lv_astore_n (lv' := [(3, .ref q9), (0, .ref (ad g 12 0)), (1, .int x1), (2, .ref (ad g 34 0))]) hx hb dL_keep_12 rfl hl (by decide) rfl (fun ls hl => ?_)
      refine lv_iconst (v := 1) hx hb dL_keep_13 (by decide) ?_
      obtain ⟨hf, hm⟩ := prinj hf
      exact e_i X hr (hW.same hm.symm) hf dL_keep_14
    · replace hf := ite_f hf h0
      exact (no_some hf).elim
  · refine k_xi_r X hW (kx_V (As := [.int x1]) (rest := [.int 0, .ref (ad g 34 0)]) X hW hml hl.1 (c_X5_keep l g hDW hst _ mm (.inr r) m1 e1) (r_recv X hW 12 0 (by decide) (by decide) rfl rfl) ⟨mw_853, kw_X5_keep⟩ ⟨⟨rfl, rfl⟩, ko_X5_keep, ⟨Nat.le_of_ble_eq_true rfl, Nat.le_of_ble_eq_true rfl⟩⟩ rfl rfl (Nat.le_of_ble_eq_true rfl) dL_keep_4 ⟨Nat.le_of_ble_eq_true rfl, Nat.le_of_ble_eq_true rfl⟩) (fun H locs hW => ?_)
    refine lv_i2l hx hb dL_keep_7 (v := r.toInt64) rfl ?_
    refine r_last X hW vp01 dL_keep_8 (fun H locs hW => ?_)
    refine lv_goto (tgt := 15) hx hb dL_keep_9 (by decide) ?_
    refine lv_iconst (v := 0) hx hb dL_keep_15 (by decide) ?_
    obtain ⟨hf, hm⟩ := prinj hf
    exact e_i X hr (hW.same hm.symm) hf dL_keep_16
set_option maxRecDepth 100000 in
set_option maxHeartbeats 4000000 in
theorem c_L_goBack (l : Launch) (g : gG) (hDW : DW g) (hst : l.stackTraces = false) (x1 : Int32) (mm : gM) (r0 : Int32) (mZ : gM) (hf : fL_goBack x1 mm = some (r0, mZ)) : Met l yL_goBack (Cond.codeWith yL_goBack cL_goBack 4 (some .int) [(0, 9, 12, 15), (0, 9, 15, 33)] :: ALLW) rm_L_goBack (CPre g mm [.ref (ad g 12 0), .int x1, .ref (ad g 34 0)]) (CI g mZ r0) 2 12 (gA g) := by
  refine va_MetW (cc := cL_goBack) (maxL := 4) (ret := (some .int)) (hh := [(0, 9, 12, 15), (0, 9, 15, 33)]) (by decide) rfl ?_
  intro p e s m args below meth c s₁ B hml hv
  obtain ⟨ha, hFx, hP0, hlo⟩ := hv
  have X : Cx g p s m args c meth RL cL_goBack := Cx_ofW hDW hFx hlo B
  have hxt := vx_table (x := yL_goBack) B (atoms_spec (ws := Cond.codeWith yL_goBack cL_goBack 4 (some .int) [(0, 9, 12, 15), (0, 9, 15, 33)] :: ALLW) B.pre _ List.mem_cons_self)
  have hx := X.1
  have hb := X.2.1
  have hr := B.returns
  have hlocks := X.2.2.2.2.2.2.2
  have hW : Wd g mm s s.heap [] := ⟨hP0, va_S.rf⟩
  rw [ha, lg_entry_eq]
  have hl := lv_entry ([.ref (ad g 12 0), .int x1, .ref (ad g 34 0)] : List Value) (n := 4) (Nat.le_of_ble_eq_true rfl)
  generalize (lg_sl ([.ref (ad g 12 0), .int x1, .ref (ad g 34 0)] : List Value) ++ List.replicate (4 - (lg_sl ([.ref (ad g 12 0), .int x1, .ref (ad g 34 0)] : List Value)).length) Slot.unset).toArray = ls at hl ⊢
  have hl : lv_has ls 4 [(0, .ref (ad g 12 0)), (1, .int x1), (2, .ref (ad g 34 0))] := hl
  rw [← ha]
  show W p l e rm_L_goBack s m args below meth c s.heap [] 0 0 (MQ below (CI g mZ r0) args s 2 12 (gA g)) (F0 m 0 ls [])
  unfold fL_goBack at hf
  refine lv_aload_n hx hb dL_goBack_0 rfl (lv_at hl 2 rfl) ?_
  refine lv_iconst (v := 0) hx hb dL_goBack_1 (by decide) ?_
  refine lv_aload_n hx hb dL_goBack_2 rfl (lv_at hl 0 rfl) ?_
  refine lv_iload_n hx hb dL_goBack_3 rfl (lv_at hl 1 rfl) ?_
  rcases bx2_ex hf with ⟨E_, m1, e1, hf⟩ | ⟨r, m1, e1, hf⟩
  · refine k_xi_x X hW (kx_V (As := [.int x1]) (rest := [.int 0, .ref (ad g 34 0)]) X hW hml hl.1 (c_X5_goBack l g hDW hst _ mm (.inl E_) m1 e1) (r_recv X hW 12 0 (by decide) (by decide) rfl rfl) ⟨mw_864, kw_X5_goBack⟩ ⟨⟨rfl, rfl⟩, ko_X5_goBack, ⟨Nat.le_of_ble_eq_true rfl, Nat.le_of_ble_eq_true rfl⟩⟩ rfl rfl (Nat.le_of_ble_eq_true rfl) dL_goBack_4 ⟨Nat.le_of_ble_eq_true rfl, Nat.le_of_ble_eq_true rfl⟩) (fun ce q9 H locs hW hq hv hcl => ?_)
    by_cases h0 : E_ = "java/lang/IllegalArgumentException"
    · replace hf := ite_t hf h0
      subst h0
      refine vx_catch (name := "java/lang/IllegalArgumentException") X.2.2.1 [] ⟨0, 9, 12, 15⟩ [⟨0, 9, 15, 33⟩] (by rw [hxt]; rfl) (fun z hz => nomatch hz) (by decide) (by decide) (X.2.2.2.1 _ mw_633) (va_Nw.use rfl X.2.2.2.2.2.2.1.2.2.2.2.2.2.1) hq hv hcl ?_
      refine lv_astore_n (lv' := [(3, .ref q9), (0, .ref (ad g 12 0)), (1, .int x1), (2, .ref (ad g 34 0))]) hx hb dL_goBack_12 rfl hl (by decide) rfl (fun ls hl => ?_)
      refine lv_iconst (v := 1) hx hb dL_goBack_13 (by decide) ?_
      obtain ⟨hf, hm⟩ := prinj hf
      exact e_i X hr (hW.same hm.symm) hf dL_goBack_14
    · replace hf := ite_f hf h0
      by_cases h1 : E_ = "java/lang/IllegalStateException"
      · replace hf := ite_t hf h1
        subst h1
        refine vx_catch (name := "java/lang/IllegalStateException") X.2.2.1 [⟨0, 9, 12, 15⟩] ⟨0, 9, 15, 33⟩ [] (by rw [hxt]; rfl) (fun z hz => by rcases List.mem_singleton.mp hz with rfl; exact Or.inr ⟨by decide, "java/lang/IllegalArgumentException", X.2.2.2.1 _ mw_633, X.2.2.2.2.2.2.1.2.2.2.2.2.2.2.2.2.2.2.2.2.2.1⟩) (by decide) (by decide) (X.2.2.2.1 _ mw_767) (va_Nw.use rfl X.2.2.2.2.2.2.1.2.2.2.2.2.2.2.1) hq hv hcl ?_
        refine lv_astore_n (lv' := [(3, .ref q9), (0, .ref (ad g 12 0)), (1, .int x1), (2, .ref (ad g 34 0))]) hx hb dL_goBack_15 rfl hl (by decide) rfl (fun ls hl => ?_)
        refine lv_iconst (v := 2) hx hb dL_goBack_16 (by decide) ?_
        obtain ⟨hf, hm⟩ := prinj hf
        exact e_i X hr (hW.same hm.symm) hf dL_goBack_17
      · replace hf := ite_f hf h1
        exact (no_some hf).elim
  · refine k_xi_r X hW (kx_V (As := [.int x1]) (rest := [.int 0, .ref (ad g 34 0)]) X hW hml hl.1 (c_X5_goBack l g hDW hst _ mm (.inr r) m1 e1) (r_recv X hW 12 0 (by decide) (by decide) rfl rfl) ⟨mw_864, kw_X5_goBack⟩ ⟨⟨rfl, rfl⟩, ko_X5_goBack, ⟨Nat.le_of_ble_eq_true rfl, Nat.le_of_ble_eq_true rfl⟩⟩ rfl rfl (Nat.le_of_ble_eq_true rfl) dL_goBack_4 ⟨Nat.le_of_ble_eq_true rfl, Nat.le_of_ble_eq_true rfl⟩) (fun H locs hW => ?_)
    refine lv_i2l hx hb dL_goBack_7 (v := r.toInt64) rfl ?_
    refine r_last X hW vp01 dL_goBack_8 (fun H locs hW => ?_)
    refine lv_goto (tgt := 18) hx hb dL_goBack_9 (by decide) ?_
    refine lv_iconst (v := 0) hx hb dL_goBack_18 (by decide) ?_
    obtain ⟨hf, hm⟩ := prinj hf
    exact e_i X hr (hW.same hm.symm) hf dL_goBack_19
set_option maxRecDepth 100000 in
set_option maxHeartbeats 4000000 in
theorem c_L_undo (l : Launch) (g : gG) (hDW : DW g) (hst : l.stackTraces = false) (mm : gM) (r0 : Int32) (mZ : gM) (hf : fL_undo mm = some (r0, mZ)) : Met l yL_undo (Cond.codeWith yL_undo cL_undo 3 (some .int) [(0, 8, 11, 33)] :: ALLW) rm_L_undo (CPre g mm [.ref (ad g 12 0), .ref (ad g 34 0)]) (CI g mZ r0) 1 6 (gA g) := by
  refine va_MetW (cc := cL_undo) (maxL := 3) (ret := (some .int)) (hh := [(0, 8, 11, 33)]) (by decide) rfl ?_
  intro p e s m args below meth c s₁ B hml hv
  obtain ⟨ha, hFx, hP0, hlo⟩ := hv
  have X : Cx g p s m args c meth RL cL_undo := Cx_ofW hDW hFx hlo B
  have hxt := vx_table (x := yL_undo) B (atoms_spec (ws := Cond.codeWith yL_undo cL_undo 3 (some .int) [(0, 8, 11, 33)] :: ALLW) B.pre _ List.mem_cons_self)
  have hx := X.1
  have hb := X.2.1
  have hr := B.returns
  have hlocks := X.2.2.2.2.2.2.2
  have hW : Wd g mm s s.heap [] := ⟨hP0, va_S.rf⟩
  rw [ha, lg_entry_eq]
  have hl := lv_entry ([.ref (ad g 12 0), .ref (ad g 34 0)] : List Value) (n := 3) (Nat.le_of_ble_eq_true rfl)
  generalize (lg_sl ([.ref (ad g 12 0), .ref (ad g 34 0)] : List Value) ++ List.replicate (3 - (lg_sl ([.ref (ad g 12 0), .ref (ad g 34 0)] : List Value)).length) Slot.unset).toArray = ls at hl ⊢
  have hl : lv_has ls 3 [(0, .ref (ad g 12 0)), (1, .ref (ad g 34 0))] := hl
  rw [← ha]
  show W p l e rm_L_undo s m args below meth c s.heap [] 0 0 (MQ below (CI g mZ r0) args s 1 6 (gA g)) (F0 m 0 ls [])
  unfold fL_undo at hf
  refine lv_aload_n hx hb dL_undo_0 rfl (lv_at hl 1 rfl) ?_
  refine lv_iconst (v := 0) hx hb dL_undo_1 (by decide) ?_
  refine lv_aload_n hx hb dL_undo_2 rfl (lv_at hl 0 rfl) ?_
  rcases bx2_ex hf with ⟨E_, m1, e1, hf⟩ | ⟨r, m1, e1, hf⟩
  · refine k_xi_x X hW (kx_V (As := []) (rest := [.int 0, .ref (ad g 34 0)]) X hW hml hl.1 (c_X5_undo l g hDW hst  mm (.inl E_) m1 e1) (r_recv X hW 12 0 (by decide) (by decide) rfl rfl) ⟨mw_872, kw_X5_undo⟩ ⟨⟨rfl, rfl⟩, ko_X5_undo, ⟨Nat.le_of_ble_eq_true rfl, Nat.le_of_ble_eq_true rfl⟩⟩ rfl rfl (Nat.le_of_ble_eq_true rfl) dL_undo_3 ⟨Nat.le_of_ble_eq_true rfl, Nat.le_of_ble_eq_true rfl⟩) (fun ce q9 H locs hW hq hv hcl => ?_)
    by_cases h0 : E_ = "java/lang/IllegalStateException"
    · replace hf := ite_t hf h0
      subst h0
      refine vx_catch (name := "java/lang/IllegalStateException") X.2.2.1 [] ⟨0, 8, 11, 33⟩ [] (by rw [hxt]; rfl) (fun z hz => nomatch hz) (by decide) (by decide) (X.2.2.2.1 _ mw_767) (va_Nw.use rfl X.2.2.2.2.2.2.1.2.2.2.2.2.2.2.1) hq hv hcl ?_
      refine lv_astore_n (lv' := [(2, .ref q9), (0, .ref (ad g 12 0)), (1, .ref (ad g 34 0))]) hx hb dL_undo_11 rfl hl (by decide) rfl (fun ls hl => ?_)
      refine lv_iconst (v := 1) hx hb dL_undo_12 (by decide) ?_
      obtain ⟨hf, hm⟩ := prinj hf
      exact e_i X hr (hW.same hm.symm) hf dL_undo_13
    · replace hf := ite_f hf h0
      exact (no_some hf).elim
  · refine k_xi_r X hW (kx_V (As := []) (rest := [.int 0, .ref (ad g 34 0)]) X hW hml hl.1 (c_X5_undo l g hDW hst  mm (.inr r) m1 e1) (r_recv X hW 12 0 (by decide) (by decide) rfl rfl) ⟨mw_872, kw_X5_undo⟩ ⟨⟨rfl, rfl⟩, ko_X5_undo, ⟨Nat.le_of_ble_eq_true rfl, Nat.le_of_ble_eq_true rfl⟩⟩ rfl rfl (Nat.le_of_ble_eq_true rfl) dL_undo_3 ⟨Nat.le_of_ble_eq_true rfl, Nat.le_of_ble_eq_true rfl⟩) (fun H locs hW => ?_)
    refine lv_i2l hx hb dL_undo_6 (v := r.toInt64) rfl ?_
    refine r_last X hW vp01 dL_undo_7 (fun H locs hW => ?_)
    refine lv_goto (tgt := 14) hx hb dL_undo_8 (by decide) ?_
    refine lv_iconst (v := 0) hx hb dL_undo_14 (by decide) ?_
    obtain ⟨hf, hm⟩ := prinj hf
    exact e_i X hr (hW.same hm.symm) hf dL_undo_15
set_option maxRecDepth 100000 in
set_option maxHeartbeats 4000000 in
theorem c_L_slotOf (l : Launch) (g : gG) (hDW : DW g) (hst : l.stackTraces = false) (x1 : Int32) (x2 : Int32) (mm : gM) (r0 : Int32) (mZ : gM) (hf : fL_slotOf x1 x2 mm = some (r0, mZ)) : Met l yL_slotOf (Cond.codeWith yL_slotOf cL_slotOf 5 (some .int) [(0, 10, 13, 13), (0, 10, 17, 15)] :: ALLW) rm_L_slotOf (CPre g mm [.ref (ad g 12 0), .int x1, .int x2, .ref (ad g 34 0)]) (CI g mZ r0) 2 12 (gA g) := by
  refine va_MetW (cc := cL_slotOf) (maxL := 5) (ret := (some .int)) (hh := [(0, 10, 13, 13), (0, 10, 17, 15)]) (by decide) rfl ?_
  intro p e s m args below meth c s₁ B hml hv
  obtain ⟨ha, hFx, hP0, hlo⟩ := hv
  have X : Cx g p s m args c meth RL cL_slotOf := Cx_ofW hDW hFx hlo B
  have hxt := vx_table (x := yL_slotOf) B (atoms_spec (ws := Cond.codeWith yL_slotOf cL_slotOf 5 (some .int) [(0, 10, 13, 13), (0, 10, 17, 15)] :: ALLW) B.pre _ List.mem_cons_self)
  have hx := X.1
  have hb := X.2.1
  have hr := B.returns
  have hlocks := X.2.2.2.2.2.2.2
  have hW : Wd g mm s s.heap [] := ⟨hP0, va_S.rf⟩
  rw [ha, lg_entry_eq]
  have hl := lv_entry ([.ref (ad g 12 0), .int x1, .int x2, .ref (ad g 34 0)] : List Value) (n := 5) (Nat.le_of_ble_eq_true rfl)
  generalize (lg_sl ([.ref (ad g 12 0), .int x1, .int x2, .ref (ad g 34 0)] : List Value) ++ List.replicate (5 - (lg_sl ([.ref (ad g 12 0), .int x1, .int x2, .ref (ad g 34 0)] : List Value)).length) Slot.unset).toArray = ls at hl ⊢
  have hl : lv_has ls 5 [(0, .ref (ad g 12 0)), (1, .int x1), (2, .int x2), (3, .ref (ad g 34 0))] := hl
  rw [← ha]
  show W p l e rm_L_slotOf s m args below meth c s.heap [] 0 0 (MQ below (CI g mZ r0) args s 2 12 (gA g)) (F0 m 0 ls [])
  unfold fL_slotOf at hf
  refine lv_aload_n hx hb dL_slotOf_0 rfl (lv_at hl 3 rfl) ?_
  refine lv_iconst (v := 0) hx hb dL_slotOf_1 (by decide) ?_
  refine lv_aload_n hx hb dL_slotOf_2 rfl (lv_at hl 0 rfl) ?_
  refine lv_iload_n hx hb dL_slotOf_3 rfl (lv_at hl 1 rfl) ?_
  refine lv_iload_n hx hb dL_slotOf_4 rfl (lv_at hl 2 rfl) ?_
  rcases bx2_ex hf with ⟨E_, m1, e1, hf⟩ | ⟨r, m1, e1, hf⟩
  · refine k_xi_x X hW (kx_V (As := [.int x1, .int x2]) (rest := [.int 0, .ref (ad g 34 0)]) X hW hml hl.1 (c_X5_slotOf l g hDW hst _ _ mm (.inl E_) m1 e1) (r_recv X hW 12 0 (by decide) (by decide) rfl rfl) ⟨mw_880, kw_X5_slotOf⟩ ⟨⟨rfl, rfl⟩, ko_X5_slotOf, ⟨Nat.le_of_ble_eq_true rfl, Nat.le_of_ble_eq_true rfl⟩⟩ rfl rfl (Nat.le_of_ble_eq_true rfl) dL_slotOf_5 ⟨Nat.le_of_ble_eq_true rfl, Nat.le_of_ble_eq_true rfl⟩) (fun ce q9 H locs hW hq hv hcl => ?_)
    by_cases h0 : E_ = "java/lang/IndexOutOfBoundsException"
    · replace hf := ite_t hf h0
      subst h0
      refine vx_catch (name := "java/lang/IndexOutOfBoundsException") X.2.2.1 [] ⟨0, 10, 13, 13⟩ [⟨0, 10, 17, 15⟩] (by rw [hxt]; rfl) (fun z hz => nomatch hz) (by decide) (by decide) (X.2.2.2.1 _ mw_632) (va_Nw.use rfl X.2.2.2.2.2.2.1.2.2.2.2.2.2.2.2.1) hq hv hcl ?_
      refine lv_astore (lv' := [(4, .ref q9), (0, .ref (ad g 12 0)), (1, .int x1), (2, .int x2), (3, .ref (ad g 34 0))]) hx hb dL_slotOf_13 hl (by decide) rfl (fun ls hl => ?_)
      refine lv_iconst (v := 1) hx hb dL_slotOf_15 (by decide) ?_
      obtain ⟨hf, hm⟩ := prinj hf
      exact e_i X hr (hW.same hm.symm) hf dL_slotOf_16
    · replace hf := ite_f hf h0
      by_cases h1 : E_ = "java/lang/IllegalArgumentException"
      · replace hf := ite_t hf h1
        subst h1
        refine vx_catch (name := "java/lang/IllegalArgumentException") X.2.2.1 [⟨0, 10, 13, 13⟩] ⟨0, 10, 17, 15⟩ [] (by rw [hxt]; rfl) (fun z hz => by rcases List.mem_singleton.mp hz with rfl; exact Or.inr ⟨by decide, "java/lang/IndexOutOfBoundsException", X.2.2.2.1 _ mw_632, X.2.2.2.2.2.2.1.2.2.2.2.2.2.2.2.2.2.2.2.2.1⟩) (by decide) (by decide) (X.2.2.2.1 _ mw_633) (va_Nw.use rfl X.2.2.2.2.2.2.1.2.2.2.2.2.2.1) hq hv hcl ?_
        refine lv_astore (lv' := [(4, .ref q9), (0, .ref (ad g 12 0)), (1, .int x1), (2, .int x2), (3, .ref (ad g 34 0))]) hx hb dL_slotOf_17 hl (by decide) rfl (fun ls hl => ?_)
        refine lv_iconst (v := 2) hx hb dL_slotOf_19 (by decide) ?_
        obtain ⟨hf, hm⟩ := prinj hf
        exact e_i X hr (hW.same hm.symm) hf dL_slotOf_20
      · replace hf := ite_f hf h1
        exact (no_some hf).elim
  · refine k_xi_r X hW (kx_V (As := [.int x1, .int x2]) (rest := [.int 0, .ref (ad g 34 0)]) X hW hml hl.1 (c_X5_slotOf l g hDW hst _ _ mm (.inr r) m1 e1) (r_recv X hW 12 0 (by decide) (by decide) rfl rfl) ⟨mw_880, kw_X5_slotOf⟩ ⟨⟨rfl, rfl⟩, ko_X5_slotOf, ⟨Nat.le_of_ble_eq_true rfl, Nat.le_of_ble_eq_true rfl⟩⟩ rfl rfl (Nat.le_of_ble_eq_true rfl) dL_slotOf_5 ⟨Nat.le_of_ble_eq_true rfl, Nat.le_of_ble_eq_true rfl⟩) (fun H locs hW => ?_)
    refine lv_i2l hx hb dL_slotOf_8 (v := r.toInt64) rfl ?_
    refine r_last X hW vp01 dL_slotOf_9 (fun H locs hW => ?_)
    refine lv_goto (tgt := 21) hx hb dL_slotOf_10 (by decide) ?_
    refine lv_iconst (v := 0) hx hb dL_slotOf_21 (by decide) ?_
    obtain ⟨hf, hm⟩ := prinj hf
    exact e_i X hr (hW.same hm.symm) hf dL_slotOf_22
set_option maxRecDepth 100000 in
set_option maxHeartbeats 4000000 in
theorem c_L_segmentOf (l : Launch) (g : gG) (hDW : DW g) (hst : l.stackTraces = false) (x1 : Int32) (x2 : Int32) (x3 : Int32) (mm : gM) (r0 : Int32) (mZ : gM) (hf : fL_segmentOf x1 x2 x3 mm = some (r0, mZ)) : Met l yL_segmentOf (Cond.codeWith yL_segmentOf cL_segmentOf 6 (some .int) [(0, 12, 15, 13), (0, 12, 19, 15)] :: ALLW) rm_L_segmentOf (CPre g mm [.ref (ad g 12 0), .int x1, .int x2, .int x3, .ref (ad g 34 0)]) (CI g mZ r0) 3 18 (gA g) := by
  refine va_MetW (cc := cL_segmentOf) (maxL := 6) (ret := (some .int)) (hh := [(0, 12, 15, 13), (0, 12, 19, 15)]) (by decide) rfl ?_
  intro p e s m args below meth c s₁ B hml hv
  obtain ⟨ha, hFx, hP0, hlo⟩ := hv
  have X : Cx g p s m args c meth RL cL_segmentOf := Cx_ofW hDW hFx hlo B
  have hxt := vx_table (x := yL_segmentOf) B (atoms_spec (ws := Cond.codeWith yL_segmentOf cL_segmentOf 6 (some .int) [(0, 12, 15, 13), (0, 12, 19, 15)] :: ALLW) B.pre _ List.mem_cons_self)
  have hx := X.1
  have hb := X.2.1
  have hr := B.returns
  have hlocks := X.2.2.2.2.2.2.2
  have hW : Wd g mm s s.heap [] := ⟨hP0, va_S.rf⟩
  rw [ha, lg_entry_eq]
  have hl := lv_entry ([.ref (ad g 12 0), .int x1, .int x2, .int x3, .ref (ad g 34 0)] : List Value) (n := 6) (Nat.le_of_ble_eq_true rfl)
  generalize (lg_sl ([.ref (ad g 12 0), .int x1, .int x2, .int x3, .ref (ad g 34 0)] : List Value) ++ List.replicate (6 - (lg_sl ([.ref (ad g 12 0), .int x1, .int x2, .int x3, .ref (ad g 34 0)] : List Value)).length) Slot.unset).toArray = ls at hl ⊢
  have hl : lv_has ls 6 [(0, .ref (ad g 12 0)), (1, .int x1), (2, .int x2), (3, .int x3), (4, .ref (ad g 34 0))] := hl
  rw [← ha]
  show W p l e rm_L_segmentOf s m args below meth c s.heap [] 0 0 (MQ below (CI g mZ r0) args s 3 18 (gA g)) (F0 m 0 ls [])
  unfold fL_segmentOf at hf
  refine lv_aload hx hb dL_segmentOf_0 (lv_at hl 4 rfl) ?_
  refine lv_iconst (v := 0) hx hb dL_segmentOf_2 (by decide) ?_
  refine lv_aload_n hx hb dL_segmentOf_3 rfl (lv_at hl 0 rfl) ?_
  refine lv_iload_n hx hb dL_segmentOf_4 rfl (lv_at hl 1 rfl) ?_
  refine lv_iload_n hx hb dL_segmentOf_5 rfl (lv_at hl 2 rfl) ?_
  refine lv_iload_n hx hb dL_segmentOf_6 rfl (lv_at hl 3 rfl) ?_
  rcases bx2_ex hf with ⟨E_, m1, e1, hf⟩ | ⟨r, m1, e1, hf⟩
  · refine k_xi_x X hW (kx_V (As := [.int x1, .int x2, .int x3]) (rest := [.int 0, .ref (ad g 34 0)]) X hW hml hl.1 (c_X5_segmentOf l g hDW hst _ _ _ mm (.inl E_) m1 e1) (r_recv X hW 12 0 (by decide) (by decide) rfl rfl) ⟨mw_891, kw_X5_segmentOf⟩ ⟨⟨rfl, rfl⟩, ko_X5_segmentOf, ⟨Nat.le_of_ble_eq_true rfl, Nat.le_of_ble_eq_true rfl⟩⟩ rfl rfl (Nat.le_of_ble_eq_true rfl) dL_segmentOf_7 ⟨Nat.le_of_ble_eq_true rfl, Nat.le_of_ble_eq_true rfl⟩) (fun ce q9 H locs hW hq hv hcl => ?_)
    by_cases h0 : E_ = "java/lang/IndexOutOfBoundsException"
    · replace hf := ite_t hf h0
      subst h0
      refine vx_catch (name := "java/lang/IndexOutOfBoundsException") X.2.2.1 [] ⟨0, 12, 15, 13⟩ [⟨0, 12, 19, 15⟩] (by rw [hxt]; rfl) (fun z hz => nomatch hz) (by decide) (by decide) (X.2.2.2.1 _ mw_632) (va_Nw.use rfl X.2.2.2.2.2.2.1.2.2.2.2.2.2.2.2.1) hq hv hcl ?_
      refine lv_astore (lv' := [(5, .ref q9), (0, .ref (ad g 12 0)), (1, .int x1), (2, .int x2), (3, .int x3), (4, .ref (ad g 34 0))]) hx hb dL_segmentOf_15 hl (by decide) rfl (fun ls hl => ?_)
      refine lv_iconst (v := 1) hx hb dL_segmentOf_17 (by decide) ?_
      obtain ⟨hf, hm⟩ := prinj hf
      exact e_i X hr (hW.same hm.symm) hf dL_segmentOf_18
    · replace hf := ite_f hf h0
      by_cases h1 : E_ = "java/lang/IllegalArgumentException"
      · replace hf := ite_t hf h1
        subst h1
        refine vx_catch (name := "java/lang/IllegalArgumentException") X.2.2.1 [⟨0, 12, 15, 13⟩] ⟨0, 12, 19, 15⟩ [] (by rw [hxt]; rfl) (fun z hz => by rcases List.mem_singleton.mp hz with rfl; exact Or.inr ⟨by decide, "java/lang/IndexOutOfBoundsException", X.2.2.2.1 _ mw_632, X.2.2.2.2.2.2.1.2.2.2.2.2.2.2.2.2.2.2.2.2.1⟩) (by decide) (by decide) (X.2.2.2.1 _ mw_633) (va_Nw.use rfl X.2.2.2.2.2.2.1.2.2.2.2.2.2.1) hq hv hcl ?_
        refine lv_astore (lv' := [(5, .ref q9), (0, .ref (ad g 12 0)), (1, .int x1), (2, .int x2), (3, .int x3), (4, .ref (ad g 34 0))]) hx hb dL_segmentOf_19 hl (by decide) rfl (fun ls hl => ?_)
        refine lv_iconst (v := 2) hx hb dL_segmentOf_21 (by decide) ?_
        obtain ⟨hf, hm⟩ := prinj hf
        exact e_i X hr (hW.same hm.symm) hf dL_segmentOf_22
      · replace hf := ite_f hf h1
        exact (no_some hf).elim
  · refine k_xi_r X hW (kx_V (As := [.int x1, .int x2, .int x3]) (rest := [.int 0, .ref (ad g 34 0)]) X hW hml hl.1 (c_X5_segmentOf l g hDW hst _ _ _ mm (.inr r) m1 e1) (r_recv X hW 12 0 (by decide) (by decide) rfl rfl) ⟨mw_891, kw_X5_segmentOf⟩ ⟨⟨rfl, rfl⟩, ko_X5_segmentOf, ⟨Nat.le_of_ble_eq_true rfl, Nat.le_of_ble_eq_true rfl⟩⟩ rfl rfl (Nat.le_of_ble_eq_true rfl) dL_segmentOf_7 ⟨Nat.le_of_ble_eq_true rfl, Nat.le_of_ble_eq_true rfl⟩) (fun H locs hW => ?_)
    refine lv_i2l hx hb dL_segmentOf_10 (v := r.toInt64) rfl ?_
    refine r_last X hW vp01 dL_segmentOf_11 (fun H locs hW => ?_)
    refine lv_goto (tgt := 23) hx hb dL_segmentOf_12 (by decide) ?_
    refine lv_iconst (v := 0) hx hb dL_segmentOf_23 (by decide) ?_
    obtain ⟨hf, hm⟩ := prinj hf
    exact e_i X hr (hW.same hm.symm) hf dL_segmentOf_24
set_option maxRecDepth 100000 in
set_option maxHeartbeats 4000000 in
theorem c_L_count (l : Launch) (g : gG) (hDW : DW g) (hst : l.stackTraces = false) (x1 : Int32) (mm : gM) (r0 : Int32) (mZ : gM) (hf : fL_count x1 mm = some (r0, mZ)) : Met l yL_count (Cond.codeWith yL_count cL_count 4 (some .int) [(0, 9, 12, 15)] :: ALLW) rm_L_count (CPre g mm [.ref (ad g 12 0), .int x1, .ref (ad g 34 0)]) (CI g mZ r0) 1 6 (gA g) := by
  refine va_MetW (cc := cL_count) (maxL := 4) (ret := (some .int)) (hh := [(0, 9, 12, 15)]) (by decide) rfl ?_
  intro p e s m args below meth c s₁ B hml hv
  obtain ⟨ha, hFx, hP0, hlo⟩ := hv
  have X : Cx g p s m args c meth RL cL_count := Cx_ofW hDW hFx hlo B
  have hxt := vx_table (x := yL_count) B (atoms_spec (ws := Cond.codeWith yL_count cL_count 4 (some .int) [(0, 9, 12, 15)] :: ALLW) B.pre _ List.mem_cons_self)
  have hx := X.1
  have hb := X.2.1
  have hr := B.returns
  have hlocks := X.2.2.2.2.2.2.2
  have hW : Wd g mm s s.heap [] := ⟨hP0, va_S.rf⟩
  rw [ha, lg_entry_eq]
  have hl := lv_entry ([.ref (ad g 12 0), .int x1, .ref (ad g 34 0)] : List Value) (n := 4) (Nat.le_of_ble_eq_true rfl)
  generalize (lg_sl ([.ref (ad g 12 0), .int x1, .ref (ad g 34 0)] : List Value) ++ List.replicate (4 - (lg_sl ([.ref (ad g 12 0), .int x1, .ref (ad g 34 0)] : List Value)).length) Slot.unset).toArray = ls at hl ⊢
  have hl : lv_has ls 4 [(0, .ref (ad g 12 0)), (1, .int x1), (2, .ref (ad g 34 0))] := hl
  rw [← ha]
  show W p l e rm_L_count s m args below meth c s.heap [] 0 0 (MQ below (CI g mZ r0) args s 1 6 (gA g)) (F0 m 0 ls [])
  unfold fL_count at hf
  refine lv_aload_n hx hb dL_count_0 rfl (lv_at hl 2 rfl) ?_
  refine lv_iconst (v := 0) hx hb dL_count_1 (by decide) ?_
  refine lv_aload_n hx hb dL_count_2 rfl (lv_at hl 0 rfl) ?_
  refine lv_iload_n hx hb dL_count_3 rfl (lv_at hl 1 rfl) ?_
  rcases bx2_ex hf with ⟨E_, m1, e1, hf⟩ | ⟨r, m1, e1, hf⟩
  · refine k_xi_x X hW (kx_V (As := [.int x1]) (rest := [.int 0, .ref (ad g 34 0)]) X hW hml hl.1 (c_X5_count l g hDW hst _ mm (.inl E_) m1 e1) (r_recv X hW 12 0 (by decide) (by decide) rfl rfl) ⟨mw_898, kw_X5_count⟩ ⟨⟨rfl, rfl⟩, ko_X5_count, ⟨Nat.le_of_ble_eq_true rfl, Nat.le_of_ble_eq_true rfl⟩⟩ rfl rfl (Nat.le_of_ble_eq_true rfl) dL_count_4 ⟨Nat.le_of_ble_eq_true rfl, Nat.le_of_ble_eq_true rfl⟩) (fun ce q9 H locs hW hq hv hcl => ?_)
    by_cases h0 : E_ = "java/lang/IllegalArgumentException"
    · replace hf := ite_t hf h0
      subst h0
      refine vx_catch (name := "java/lang/IllegalArgumentException") X.2.2.1 [] ⟨0, 9, 12, 15⟩ [] (by rw [hxt]; rfl) (fun z hz => nomatch hz) (by decide) (by decide) (X.2.2.2.1 _ mw_633) (va_Nw.use rfl X.2.2.2.2.2.2.1.2.2.2.2.2.2.1) hq hv hcl ?_
      refine lv_astore_n (lv' := [(3, .ref q9), (0, .ref (ad g 12 0)), (1, .int x1), (2, .ref (ad g 34 0))]) hx hb dL_count_12 rfl hl (by decide) rfl (fun ls hl => ?_)
      refine lv_iconst (v := 1) hx hb dL_count_13 (by decide) ?_
      obtain ⟨hf, hm⟩ := prinj hf
      exact e_i X hr (hW.same hm.symm) hf dL_count_14
    · replace hf := ite_f hf h0
      exact (no_some hf).elim
  · refine k_xi_r X hW (kx_V (As := [.int x1]) (rest := [.int 0, .ref (ad g 34 0)]) X hW hml hl.1 (c_X5_count l g hDW hst _ mm (.inr r) m1 e1) (r_recv X hW 12 0 (by decide) (by decide) rfl rfl) ⟨mw_898, kw_X5_count⟩ ⟨⟨rfl, rfl⟩, ko_X5_count, ⟨Nat.le_of_ble_eq_true rfl, Nat.le_of_ble_eq_true rfl⟩⟩ rfl rfl (Nat.le_of_ble_eq_true rfl) dL_count_4 ⟨Nat.le_of_ble_eq_true rfl, Nat.le_of_ble_eq_true rfl⟩) (fun H locs hW => ?_)
    refine lv_i2l hx hb dL_count_7 (v := r.toInt64) rfl ?_
    refine r_last X hW vp01 dL_count_8 (fun H locs hW => ?_)
    refine lv_goto (tgt := 15) hx hb dL_count_9 (by decide) ?_
    refine lv_iconst (v := 0) hx hb dL_count_15 (by decide) ?_
    obtain ⟨hf, hm⟩ := prinj hf
    exact e_i X hr (hW.same hm.symm) hf dL_count_16
set_option maxRecDepth 100000 in
set_option maxHeartbeats 4000000 in
theorem c_L_setting (l : Launch) (g : gG) (hDW : DW g) (hst : l.stackTraces = false) (x1 : Int32) (mm : gM) (r0 : Int32) (mZ : gM) (hf : fL_setting x1 mm = some (r0, mZ)) : Met l yL_setting (Cond.codeWith yL_setting cL_setting 4 (some .int) [(0, 9, 12, 13)] :: ALLW) rm_L_setting (CPre g mm [.ref (ad g 12 0), .int x1, .ref (ad g 34 0)]) (CI g mZ r0) 1 6 (gA g) := by
  refine va_MetW (cc := cL_setting) (maxL := 4) (ret := (some .int)) (hh := [(0, 9, 12, 13)]) (by decide) rfl ?_
  intro p e s m args below meth c s₁ B hml hv
  obtain ⟨ha, hFx, hP0, hlo⟩ := hv
  have X : Cx g p s m args c meth RL cL_setting := Cx_ofW hDW hFx hlo B
  have hxt := vx_table (x := yL_setting) B (atoms_spec (ws := Cond.codeWith yL_setting cL_setting 4 (some .int) [(0, 9, 12, 13)] :: ALLW) B.pre _ List.mem_cons_self)
  have hx := X.1
  have hb := X.2.1
  have hr := B.returns
  have hlocks := X.2.2.2.2.2.2.2
  have hW : Wd g mm s s.heap [] := ⟨hP0, va_S.rf⟩
  rw [ha, lg_entry_eq]
  have hl := lv_entry ([.ref (ad g 12 0), .int x1, .ref (ad g 34 0)] : List Value) (n := 4) (Nat.le_of_ble_eq_true rfl)
  generalize (lg_sl ([.ref (ad g 12 0), .int x1, .ref (ad g 34 0)] : List Value) ++ List.replicate (4 - (lg_sl ([.ref (ad g 12 0), .int x1, .ref (ad g 34 0)] : List Value)).length) Slot.unset).toArray = ls at hl ⊢
  have hl : lv_has ls 4 [(0, .ref (ad g 12 0)), (1, .int x1), (2, .ref (ad g 34 0))] := hl
  rw [← ha]
  show W p l e rm_L_setting s m args below meth c s.heap [] 0 0 (MQ below (CI g mZ r0) args s 1 6 (gA g)) (F0 m 0 ls [])
  unfold fL_setting at hf
  refine lv_aload_n hx hb dL_setting_0 rfl (lv_at hl 2 rfl) ?_
  refine lv_iconst (v := 0) hx hb dL_setting_1 (by decide) ?_
  refine lv_aload_n hx hb dL_setting_2 rfl (lv_at hl 0 rfl) ?_
  refine lv_iload_n hx hb dL_setting_3 rfl (lv_at hl 1 rfl) ?_
  rcases bx_ex hf with ⟨E_, e1, hf⟩ | ⟨r, e1, hf⟩
  · refine k_xi_x X hW (kx_V (As := [.int x1]) (rest := [.int 0, .ref (ad g 34 0)]) X hW hml hl.1 (c_X5_setting l g hDW hst _ mm (.inl E_) e1) (r_recv X hW 12 0 (by decide) (by decide) rfl rfl) ⟨mw_905, kw_X5_setting⟩ ⟨⟨rfl, rfl⟩, ko_X5_setting, ⟨Nat.le_of_ble_eq_true rfl, Nat.le_of_ble_eq_true rfl⟩⟩ rfl rfl (Nat.le_of_ble_eq_true rfl) dL_setting_4 ⟨Nat.le_of_ble_eq_true rfl, Nat.le_of_ble_eq_true rfl⟩) (fun ce q9 H locs hW hq hv hcl => ?_)
    by_cases h0 : E_ = "java/lang/IndexOutOfBoundsException"
    · replace hf := ite_t hf h0
      subst h0
      refine vx_catch (name := "java/lang/IndexOutOfBoundsException") X.2.2.1 [] ⟨0, 9, 12, 13⟩ [] (by rw [hxt]; rfl) (fun z hz => nomatch hz) (by decide) (by decide) (X.2.2.2.1 _ mw_632) (va_Nw.use rfl X.2.2.2.2.2.2.1.2.2.2.2.2.2.2.2.1) hq hv hcl ?_
      refine lv_astore_n (lv' := [(3, .ref q9), (0, .ref (ad g 12 0)), (1, .int x1), (2, .ref (ad g 34 0))]) hx hb dL_setting_12 rfl hl (by decide) rfl (fun ls hl => ?_)
      refine lv_iconst (v := 1) hx hb dL_setting_13 (by decide) ?_
      obtain ⟨hf, hm⟩ := prinj hf
      exact e_i X hr (hW.same hm.symm) hf dL_setting_14
    · replace hf := ite_f hf h0
      exact (no_some hf).elim
  · refine k_xi_r X hW (kx_V (As := [.int x1]) (rest := [.int 0, .ref (ad g 34 0)]) X hW hml hl.1 (c_X5_setting l g hDW hst _ mm (.inr r) e1) (r_recv X hW 12 0 (by decide) (by decide) rfl rfl) ⟨mw_905, kw_X5_setting⟩ ⟨⟨rfl, rfl⟩, ko_X5_setting, ⟨Nat.le_of_ble_eq_true rfl, Nat.le_of_ble_eq_true rfl⟩⟩ rfl rfl (Nat.le_of_ble_eq_true rfl) dL_setting_4 ⟨Nat.le_of_ble_eq_true rfl, Nat.le_of_ble_eq_true rfl⟩) (fun H locs hW => ?_)
    refine lv_i2l hx hb dL_setting_7 (v := r.toInt64) rfl ?_
    refine r_last X hW vp01 dL_setting_8 (fun H locs hW => ?_)
    refine lv_goto (tgt := 15) hx hb dL_setting_9 (by decide) ?_
    refine lv_iconst (v := 0) hx hb dL_setting_15 (by decide) ?_
    obtain ⟨hf, hm⟩ := prinj hf
    exact e_i X hr (hW.same hm.symm) hf dL_setting_16
set_option maxRecDepth 100000 in
set_option maxHeartbeats 4000000 in
theorem c_L_couldBe (l : Launch) (g : gG) (hDW : DW g) (hst : l.stackTraces = false) (x1 : Int32) (x2 : Int32) (mm : gM) (r0 : Int32) (mZ : gM) (hf : fL_couldBe x1 x2 mm = some (r0, mZ)) : Met l yL_couldBe (Cond.codeWith yL_couldBe cL_couldBe 5 (some .int) [(0, 10, 13, 13), (0, 10, 17, 15)] :: ALLW) rm_L_couldBe (CPre g mm [.ref (ad g 12 0), .int x1, .int x2, .ref (ad g 34 0)]) (CI g mZ r0) 2 12 (gA g) := by
  refine va_MetW (cc := cL_couldBe) (maxL := 5) (ret := (some .int)) (hh := [(0, 10, 13, 13), (0, 10, 17, 15)]) (by decide) rfl ?_
  intro p e s m args below meth c s₁ B hml hv
  obtain ⟨ha, hFx, hP0, hlo⟩ := hv
  have X : Cx g p s m args c meth RL cL_couldBe := Cx_ofW hDW hFx hlo B
  have hxt := vx_table (x := yL_couldBe) B (atoms_spec (ws := Cond.codeWith yL_couldBe cL_couldBe 5 (some .int) [(0, 10, 13, 13), (0, 10, 17, 15)] :: ALLW) B.pre _ List.mem_cons_self)
  have hx := X.1
  have hb := X.2.1
  have hr := B.returns
  have hlocks := X.2.2.2.2.2.2.2
  have hW : Wd g mm s s.heap [] := ⟨hP0, va_S.rf⟩
  rw [ha, lg_entry_eq]
  have hl := lv_entry ([.ref (ad g 12 0), .int x1, .int x2, .ref (ad g 34 0)] : List Value) (n := 5) (Nat.le_of_ble_eq_true rfl)
  generalize (lg_sl ([.ref (ad g 12 0), .int x1, .int x2, .ref (ad g 34 0)] : List Value) ++ List.replicate (5 - (lg_sl ([.ref (ad g 12 0), .int x1, .int x2, .ref (ad g 34 0)] : List Value)).length) Slot.unset).toArray = ls at hl ⊢
  have hl : lv_has ls 5 [(0, .ref (ad g 12 0)), (1, .int x1), (2, .int x2), (3, .ref (ad g 34 0))] := hl
  rw [← ha]
  show W p l e rm_L_couldBe s m args below meth c s.heap [] 0 0 (MQ below (CI g mZ r0) args s 2 12 (gA g)) (F0 m 0 ls [])
  unfold fL_couldBe at hf
  refine lv_aload_n hx hb dL_couldBe_0 rfl (lv_at hl 3 rfl) ?_
  refine lv_iconst (v := 0) hx hb dL_couldBe_1 (by decide) ?_
  refine lv_aload_n hx hb dL_couldBe_2 rfl (lv_at hl 0 rfl) ?_
  refine lv_iload_n hx hb dL_couldBe_3 rfl (lv_at hl 1 rfl) ?_
  refine lv_iload_n hx hb dL_couldBe_4 rfl (lv_at hl 2 rfl) ?_
  rcases bx_ex hf with ⟨E_, e1, hf⟩ | ⟨r, e1, hf⟩
  · refine k_xi_x X hW (kx_V (As := [.int x1, .int x2]) (rest := [.int 0, .ref (ad g 34 0)]) X hW hml hl.1 (c_X5_couldBe l g hDW hst _ _ mm (.inl E_) e1) (r_recv X hW 12 0 (by decide) (by decide) rfl rfl) ⟨mw_912, kw_X5_couldBe⟩ ⟨⟨rfl, rfl⟩, ko_X5_couldBe, ⟨Nat.le_of_ble_eq_true rfl, Nat.le_of_ble_eq_true rfl⟩⟩ rfl rfl (Nat.le_of_ble_eq_true rfl) dL_couldBe_5 ⟨Nat.le_of_ble_eq_true rfl, Nat.le_of_ble_eq_true rfl⟩) (fun ce q9 H locs hW hq hv hcl => ?_)
    by_cases h0 : E_ = "java/lang/IndexOutOfBoundsException"
    · replace hf := ite_t hf h0
      subst h0
      refine vx_catch (name := "java/lang/IndexOutOfBoundsException") X.2.2.1 [] ⟨0, 10, 13, 13⟩ [⟨0, 10, 17, 15⟩] (by rw [hxt]; rfl) (fun z hz => nomatch hz) (by decide) (by decide) (X.2.2.2.1 _ mw_632) (va_Nw.use rfl X.2.2.2.2.2.2.1.2.2.2.2.2.2.2.2.1) hq hv hcl ?_
      refine lv_astore (lv' := [(4, .ref q9), (0, .ref (ad g 12 0)), (1, .int x1), (2, .int x2), (3, .ref (ad g 34 0))]) hx hb dL_couldBe_13 hl (by decide) rfl (fun ls hl => ?_)
      refine lv_iconst (v := 1) hx hb dL_couldBe_15 (by decide) ?_
      obtain ⟨hf, hm⟩ := prinj hf
      exact e_i X hr (hW.same hm.symm) hf dL_couldBe_16
    · replace hf := ite_f hf h0
      by_cases h1 : E_ = "java/lang/IllegalArgumentException"
      · replace hf := ite_t hf h1
        subst h1
        refine vx_catch (name := "java/lang/IllegalArgumentException") X.2.2.1 [⟨0, 10, 13, 13⟩] ⟨0, 10, 17, 15⟩ [] (by rw [hxt]; rfl) (fun z hz => by rcases List.mem_singleton.mp hz with rfl; exact Or.inr ⟨by decide, "java/lang/IndexOutOfBoundsException", X.2.2.2.1 _ mw_632, X.2.2.2.2.2.2.1.2.2.2.2.2.2.2.2.2.2.2.2.2.1⟩) (by decide) (by decide) (X.2.2.2.1 _ mw_633) (va_Nw.use rfl X.2.2.2.2.2.2.1.2.2.2.2.2.2.1) hq hv hcl ?_
        refine lv_astore (lv' := [(4, .ref q9), (0, .ref (ad g 12 0)), (1, .int x1), (2, .int x2), (3, .ref (ad g 34 0))]) hx hb dL_couldBe_17 hl (by decide) rfl (fun ls hl => ?_)
        refine lv_iconst (v := 2) hx hb dL_couldBe_19 (by decide) ?_
        obtain ⟨hf, hm⟩ := prinj hf
        exact e_i X hr (hW.same hm.symm) hf dL_couldBe_20
      · replace hf := ite_f hf h1
        exact (no_some hf).elim
  · refine k_xi_r X hW (kx_V (As := [.int x1, .int x2]) (rest := [.int 0, .ref (ad g 34 0)]) X hW hml hl.1 (c_X5_couldBe l g hDW hst _ _ mm (.inr r) e1) (r_recv X hW 12 0 (by decide) (by decide) rfl rfl) ⟨mw_912, kw_X5_couldBe⟩ ⟨⟨rfl, rfl⟩, ko_X5_couldBe, ⟨Nat.le_of_ble_eq_true rfl, Nat.le_of_ble_eq_true rfl⟩⟩ rfl rfl (Nat.le_of_ble_eq_true rfl) dL_couldBe_5 ⟨Nat.le_of_ble_eq_true rfl, Nat.le_of_ble_eq_true rfl⟩) (fun H locs hW => ?_)
    refine lv_i2l hx hb dL_couldBe_8 (v := r.toInt64) rfl ?_
    refine r_last X hW vp01 dL_couldBe_9 (fun H locs hW => ?_)
    refine lv_goto (tgt := 21) hx hb dL_couldBe_10 (by decide) ?_
    refine lv_iconst (v := 0) hx hb dL_couldBe_21 (by decide) ?_
    obtain ⟨hf, hm⟩ := prinj hf
    exact e_i X hr (hW.same hm.symm) hf dL_couldBe_22
set_option maxRecDepth 100000 in
set_option maxHeartbeats 4000000 in
theorem c_L_ifTimed (l : Launch) (g : gG) (hDW : DW g) (hst : l.stackTraces = false) (x1 : Int32) (x2 : Int32) (mm : gM) (r0 : Int32) (mZ : gM) (hf : fL_ifTimed x1 x2 mm = some (r0, mZ)) : Met l yL_ifTimed (Cond.codeWith yL_ifTimed cL_ifTimed 5 (some .int) [(0, 10, 13, 13), (0, 10, 17, 15)] :: ALLW) rm_L_ifTimed (CPre g mm [.ref (ad g 12 0), .int x1, .int x2, .ref (ad g 34 0)]) (CI g mZ r0) 2 12 (gA g) := by
  refine va_MetW (cc := cL_ifTimed) (maxL := 5) (ret := (some .int)) (hh := [(0, 10, 13, 13), (0, 10, 17, 15)]) (by decide) rfl ?_
  intro p e s m args below meth c s₁ B hml hv
  obtain ⟨ha, hFx, hP0, hlo⟩ := hv
  have X : Cx g p s m args c meth RL cL_ifTimed := Cx_ofW hDW hFx hlo B
  have hxt := vx_table (x := yL_ifTimed) B (atoms_spec (ws := Cond.codeWith yL_ifTimed cL_ifTimed 5 (some .int) [(0, 10, 13, 13), (0, 10, 17, 15)] :: ALLW) B.pre _ List.mem_cons_self)
  have hx := X.1
  have hb := X.2.1
  have hr := B.returns
  have hlocks := X.2.2.2.2.2.2.2
  have hW : Wd g mm s s.heap [] := ⟨hP0, va_S.rf⟩
  rw [ha, lg_entry_eq]
  have hl := lv_entry ([.ref (ad g 12 0), .int x1, .int x2, .ref (ad g 34 0)] : List Value) (n := 5) (Nat.le_of_ble_eq_true rfl)
  generalize (lg_sl ([.ref (ad g 12 0), .int x1, .int x2, .ref (ad g 34 0)] : List Value) ++ List.replicate (5 - (lg_sl ([.ref (ad g 12 0), .int x1, .int x2, .ref (ad g 34 0)] : List Value)).length) Slot.unset).toArray = ls at hl ⊢
  have hl : lv_has ls 5 [(0, .ref (ad g 12 0)), (1, .int x1), (2, .int x2), (3, .ref (ad g 34 0))] := hl
  rw [← ha]
  show W p l e rm_L_ifTimed s m args below meth c s.heap [] 0 0 (MQ below (CI g mZ r0) args s 2 12 (gA g)) (F0 m 0 ls [])
  unfold fL_ifTimed at hf
  refine lv_aload_n hx hb dL_ifTimed_0 rfl (lv_at hl 3 rfl) ?_
  refine lv_iconst (v := 0) hx hb dL_ifTimed_1 (by decide) ?_
  refine lv_aload_n hx hb dL_ifTimed_2 rfl (lv_at hl 0 rfl) ?_
  refine lv_iload_n hx hb dL_ifTimed_3 rfl (lv_at hl 1 rfl) ?_
  refine lv_iload_n hx hb dL_ifTimed_4 rfl (lv_at hl 2 rfl) ?_
  rcases bx2_ex hf with ⟨E_, m1, e1, hf⟩ | ⟨r, m1, e1, hf⟩
  · refine k_xi_x X hW (kx_V (As := [.int x1, .int x2]) (rest := [.int 0, .ref (ad g 34 0)]) X hW hml hl.1 (c_X5_ifTimed l g hDW hst _ _ mm (.inl E_) m1 e1) (r_recv X hW 12 0 (by decide) (by decide) rfl rfl) ⟨mw_919, kw_X5_ifTimed⟩ ⟨⟨rfl, rfl⟩, ko_X5_ifTimed, ⟨Nat.le_of_ble_eq_true rfl, Nat.le_of_ble_eq_true rfl⟩⟩ rfl rfl (Nat.le_of_ble_eq_true rfl) dL_ifTimed_5 ⟨Nat.le_of_ble_eq_true rfl, Nat.le_of_ble_eq_true rfl⟩) (fun ce q9 H locs hW hq hv hcl => ?_)
    by_cases h0 : E_ = "java/lang/IndexOutOfBoundsException"
    · replace hf := ite_t hf h0
      subst h0
      refine vx_catch (name := "java/lang/IndexOutOfBoundsException") X.2.2.1 [] ⟨0, 10, 13, 13⟩ [⟨0, 10, 17, 15⟩] (by rw [hxt]; rfl) (fun z hz => nomatch hz) (by decide) (by decide) (X.2.2.2.1 _ mw_632) (va_Nw.use rfl X.2.2.2.2.2.2.1.2.2.2.2.2.2.2.2.1) hq hv hcl ?_
      refine lv_astore (lv' := [(4, .ref q9), (0, .ref (ad g 12 0)), (1, .int x1), (2, .int x2), (3, .ref (ad g 34 0))]) hx hb dL_ifTimed_13 hl (by decide) rfl (fun ls hl => ?_)
      refine lv_iconst (v := 1) hx hb dL_ifTimed_15 (by decide) ?_
      obtain ⟨hf, hm⟩ := prinj hf
      exact e_i X hr (hW.same hm.symm) hf dL_ifTimed_16
    · replace hf := ite_f hf h0
      by_cases h1 : E_ = "java/lang/IllegalArgumentException"
      · replace hf := ite_t hf h1
        subst h1
        refine vx_catch (name := "java/lang/IllegalArgumentException") X.2.2.1 [⟨0, 10, 13, 13⟩] ⟨0, 10, 17, 15⟩ [] (by rw [hxt]; rfl) (fun z hz => by rcases List.mem_singleton.mp hz with rfl; exact Or.inr ⟨by decide, "java/lang/IndexOutOfBoundsException", X.2.2.2.1 _ mw_632, X.2.2.2.2.2.2.1.2.2.2.2.2.2.2.2.2.2.2.2.2.1⟩) (by decide) (by decide) (X.2.2.2.1 _ mw_633) (va_Nw.use rfl X.2.2.2.2.2.2.1.2.2.2.2.2.2.1) hq hv hcl ?_
        refine lv_astore (lv' := [(4, .ref q9), (0, .ref (ad g 12 0)), (1, .int x1), (2, .int x2), (3, .ref (ad g 34 0))]) hx hb dL_ifTimed_17 hl (by decide) rfl (fun ls hl => ?_)
        refine lv_iconst (v := 2) hx hb dL_ifTimed_19 (by decide) ?_
        obtain ⟨hf, hm⟩ := prinj hf
        exact e_i X hr (hW.same hm.symm) hf dL_ifTimed_20
      · replace hf := ite_f hf h1
        exact (no_some hf).elim
  · refine k_xi_r X hW (kx_V (As := [.int x1, .int x2]) (rest := [.int 0, .ref (ad g 34 0)]) X hW hml hl.1 (c_X5_ifTimed l g hDW hst _ _ mm (.inr r) m1 e1) (r_recv X hW 12 0 (by decide) (by decide) rfl rfl) ⟨mw_919, kw_X5_ifTimed⟩ ⟨⟨rfl, rfl⟩, ko_X5_ifTimed, ⟨Nat.le_of_ble_eq_true rfl, Nat.le_of_ble_eq_true rfl⟩⟩ rfl rfl (Nat.le_of_ble_eq_true rfl) dL_ifTimed_5 ⟨Nat.le_of_ble_eq_true rfl, Nat.le_of_ble_eq_true rfl⟩) (fun H locs hW => ?_)
    refine lv_i2l hx hb dL_ifTimed_8 (v := r.toInt64) rfl ?_
    refine r_last X hW vp01 dL_ifTimed_9 (fun H locs hW => ?_)
    refine lv_goto (tgt := 21) hx hb dL_ifTimed_10 (by decide) ?_
    refine lv_iconst (v := 0) hx hb dL_ifTimed_21 (by decide) ?_
    obtain ⟨hf, hm⟩ := prinj hf
    exact e_i X hr (hW.same hm.symm) hf dL_ifTimed_22
set_option maxRecDepth 100000 in
set_option maxHeartbeats 4000000 in
theorem c_L_ifBalanced (l : Launch) (g : gG) (hDW : DW g) (hst : l.stackTraces = false) (x1 : Int32) (x2 : Int32) (mm : gM) (r0 : Int32) (mZ : gM) (hf : fL_ifBalanced x1 x2 mm = some (r0, mZ)) : Met l yL_ifBalanced (Cond.codeWith yL_ifBalanced cL_ifBalanced 5 (some .int) [(0, 10, 13, 13), (0, 10, 17, 15)] :: ALLW) rm_L_ifBalanced (CPre g mm [.ref (ad g 12 0), .int x1, .int x2, .ref (ad g 34 0)]) (CI g mZ r0) 2 12 (gA g) := by
  refine va_MetW (cc := cL_ifBalanced) (maxL := 5) (ret := (some .int)) (hh := [(0, 10, 13, 13), (0, 10, 17, 15)]) (by decide) rfl ?_
  intro p e s m args below meth c s₁ B hml hv
  obtain ⟨ha, hFx, hP0, hlo⟩ := hv
  have X : Cx g p s m args c meth RL cL_ifBalanced := Cx_ofW hDW hFx hlo B
  have hxt := vx_table (x := yL_ifBalanced) B (atoms_spec (ws := Cond.codeWith yL_ifBalanced cL_ifBalanced 5 (some .int) [(0, 10, 13, 13), (0, 10, 17, 15)] :: ALLW) B.pre _ List.mem_cons_self)
  have hx := X.1
  have hb := X.2.1
  have hr := B.returns
  have hlocks := X.2.2.2.2.2.2.2
  have hW : Wd g mm s s.heap [] := ⟨hP0, va_S.rf⟩
  rw [ha, lg_entry_eq]
  have hl := lv_entry ([.ref (ad g 12 0), .int x1, .int x2, .ref (ad g 34 0)] : List Value) (n := 5) (Nat.le_of_ble_eq_true rfl)
  generalize (lg_sl ([.ref (ad g 12 0), .int x1, .int x2, .ref (ad g 34 0)] : List Value) ++ List.replicate (5 - (lg_sl ([.ref (ad g 12 0), .int x1, .int x2, .ref (ad g 34 0)] : List Value)).length) Slot.unset).toArray = ls at hl ⊢
  have hl : lv_has ls 5 [(0, .ref (ad g 12 0)), (1, .int x1), (2, .int x2), (3, .ref (ad g 34 0))] := hl
  rw [← ha]
  show W p l e rm_L_ifBalanced s m args below meth c s.heap [] 0 0 (MQ below (CI g mZ r0) args s 2 12 (gA g)) (F0 m 0 ls [])
  unfold fL_ifBalanced at hf
  refine lv_aload_n hx hb dL_ifBalanced_0 rfl (lv_at hl 3 rfl) ?_
  refine lv_iconst (v := 0) hx hb dL_ifBalanced_1 (by decide) ?_
  refine lv_aload_n hx hb dL_ifBalanced_2 rfl (lv_at hl 0 rfl) ?_
  refine lv_iload_n hx hb dL_ifBalanced_3 rfl (lv_at hl 1 rfl) ?_
  refine lv_iload_n hx hb dL_ifBalanced_4 rfl (lv_at hl 2 rfl) ?_
  rcases bx2_ex hf with ⟨E_, m1, e1, hf⟩ | ⟨r, m1, e1, hf⟩
  · refine k_xi_x X hW (kx_V (As := [.int x1, .int x2]) (rest := [.int 0, .ref (ad g 34 0)]) X hW hml hl.1 (c_X5_ifBalanced l g hDW hst _ _ mm (.inl E_) m1 e1) (r_recv X hW 12 0 (by decide) (by decide) rfl rfl) ⟨mw_926, kw_X5_ifBalanced⟩ ⟨⟨rfl, rfl⟩, ko_X5_ifBalanced, ⟨Nat.le_of_ble_eq_true rfl, Nat.le_of_ble_eq_true rfl⟩⟩ rfl rfl (Nat.le_of_ble_eq_true rfl) dL_ifBalanced_5 ⟨Nat.le_of_ble_eq_true rfl, Nat.le_of_ble_eq_true rfl⟩) (fun ce q9 H locs hW hq hv hcl => ?_)
    by_cases h0 : E_ = "java/lang/IndexOutOfBoundsException"
    · replace hf := ite_t hf h0
      subst h0
      refine vx_catch (name := "java/lang/IndexOutOfBoundsException") X.2.2.1 [] ⟨0, 10, 13, 13⟩ [⟨0, 10, 17, 15⟩] (by rw [hxt]; rfl) (fun z hz => nomatch hz) (by decide) (by decide) (X.2.2.2.1 _ mw_632) (va_Nw.use rfl X.2.2.2.2.2.2.1.2.2.2.2.2.2.2.2.1) hq hv hcl ?_
      refine lv_astore (lv' := [(4, .ref q9), (0, .ref (ad g 12 0)), (1, .int x1), (2, .int x2), (3, .ref (ad g 34 0))]) hx hb dL_ifBalanced_13 hl (by decide) rfl (fun ls hl => ?_)
      refine lv_iconst (v := 1) hx hb dL_ifBalanced_15 (by decide) ?_
      obtain ⟨hf, hm⟩ := prinj hf
      exact e_i X hr (hW.same hm.symm) hf dL_ifBalanced_16
    · replace hf := ite_f hf h0
      by_cases h1 : E_ = "java/lang/IllegalArgumentException"
      · replace hf := ite_t hf h1
        subst h1
        refine vx_catch (name := "java/lang/IllegalArgumentException") X.2.2.1 [⟨0, 10, 13, 13⟩] ⟨0, 10, 17, 15⟩ [] (by rw [hxt]; rfl) (fun z hz => by rcases List.mem_singleton.mp hz with rfl; exact Or.inr ⟨by decide, "java/lang/IndexOutOfBoundsException", X.2.2.2.1 _ mw_632, X.2.2.2.2.2.2.1.2.2.2.2.2.2.2.2.2.2.2.2.2.1⟩) (by decide) (by decide) (X.2.2.2.1 _ mw_633) (va_Nw.use rfl X.2.2.2.2.2.2.1.2.2.2.2.2.2.1) hq hv hcl ?_
        refine lv_astore (lv' := [(4, .ref q9), (0, .ref (ad g 12 0)), (1, .int x1), (2, .int x2), (3, .ref (ad g 34 0))]) hx hb dL_ifBalanced_17 hl (by decide) rfl (fun ls hl => ?_)
        refine lv_iconst (v := 2) hx hb dL_ifBalanced_19 (by decide) ?_
        obtain ⟨hf, hm⟩ := prinj hf
        exact e_i X hr (hW.same hm.symm) hf dL_ifBalanced_20
      · replace hf := ite_f hf h1
        exact (no_some hf).elim
  · refine k_xi_r X hW (kx_V (As := [.int x1, .int x2]) (rest := [.int 0, .ref (ad g 34 0)]) X hW hml hl.1 (c_X5_ifBalanced l g hDW hst _ _ mm (.inr r) m1 e1) (r_recv X hW 12 0 (by decide) (by decide) rfl rfl) ⟨mw_926, kw_X5_ifBalanced⟩ ⟨⟨rfl, rfl⟩, ko_X5_ifBalanced, ⟨Nat.le_of_ble_eq_true rfl, Nat.le_of_ble_eq_true rfl⟩⟩ rfl rfl (Nat.le_of_ble_eq_true rfl) dL_ifBalanced_5 ⟨Nat.le_of_ble_eq_true rfl, Nat.le_of_ble_eq_true rfl⟩) (fun H locs hW => ?_)
    refine lv_i2l hx hb dL_ifBalanced_8 (v := r.toInt64) rfl ?_
    refine r_last X hW vp01 dL_ifBalanced_9 (fun H locs hW => ?_)
    refine lv_goto (tgt := 21) hx hb dL_ifBalanced_10 (by decide) ?_
    refine lv_iconst (v := 0) hx hb dL_ifBalanced_21 (by decide) ?_
    obtain ⟨hf, hm⟩ := prinj hf
    exact e_i X hr (hW.same hm.symm) hf dL_ifBalanced_22
set_option maxRecDepth 100000 in
set_option maxHeartbeats 4000000 in
theorem c_L_safest (l : Launch) (g : gG) (hDW : DW g) (hst : l.stackTraces = false) (x1 : Int32) (mm : gM) (r0 : Int32) (mZ : gM) (hf : fL_safest x1 mm = some (r0, mZ)) : Met l yL_safest (Cond.codeWith yL_safest cL_safest 4 (some .int) [(0, 9, 12, 13)] :: ALLW) rm_L_safest (CPre g mm [.ref (ad g 12 0), .int x1, .ref (ad g 34 0)]) (CI g mZ r0) 1 6 (gA g) := by
  refine va_MetW (cc := cL_safest) (maxL := 4) (ret := (some .int)) (hh := [(0, 9, 12, 13)]) (by decide) rfl ?_
  intro p e s m args below meth c s₁ B hml hv
  obtain ⟨ha, hFx, hP0, hlo⟩ := hv
  have X : Cx g p s m args c meth RL cL_safest := Cx_ofW hDW hFx hlo B
  have hxt := vx_table (x := yL_safest) B (atoms_spec (ws := Cond.codeWith yL_safest cL_safest 4 (some .int) [(0, 9, 12, 13)] :: ALLW) B.pre _ List.mem_cons_self)
  have hx := X.1
  have hb := X.2.1
  have hr := B.returns
  have hlocks := X.2.2.2.2.2.2.2
  have hW : Wd g mm s s.heap [] := ⟨hP0, va_S.rf⟩
  rw [ha, lg_entry_eq]
  have hl := lv_entry ([.ref (ad g 12 0), .int x1, .ref (ad g 34 0)] : List Value) (n := 4) (Nat.le_of_ble_eq_true rfl)
  generalize (lg_sl ([.ref (ad g 12 0), .int x1, .ref (ad g 34 0)] : List Value) ++ List.replicate (4 - (lg_sl ([.ref (ad g 12 0), .int x1, .ref (ad g 34 0)] : List Value)).length) Slot.unset).toArray = ls at hl ⊢
  have hl : lv_has ls 4 [(0, .ref (ad g 12 0)), (1, .int x1), (2, .ref (ad g 34 0))] := hl
  rw [← ha]
  show W p l e rm_L_safest s m args below meth c s.heap [] 0 0 (MQ below (CI g mZ r0) args s 1 6 (gA g)) (F0 m 0 ls [])
  unfold fL_safest at hf
  refine lv_aload_n hx hb dL_safest_0 rfl (lv_at hl 2 rfl) ?_
  refine lv_iconst (v := 0) hx hb dL_safest_1 (by decide) ?_
  refine lv_aload_n hx hb dL_safest_2 rfl (lv_at hl 0 rfl) ?_
  refine lv_iload_n hx hb dL_safest_3 rfl (lv_at hl 1 rfl) ?_
  rcases bx_ex hf with ⟨E_, e1, hf⟩ | ⟨r, e1, hf⟩
  · refine k_xi_x X hW (kx_V (As := [.int x1]) (rest := [.int 0, .ref (ad g 34 0)]) X hW hml hl.1 (c_X5_safest l g hDW hst _ mm (.inl E_) e1) (r_recv X hW 12 0 (by decide) (by decide) rfl rfl) ⟨mw_933, kw_X5_safest⟩ ⟨⟨rfl, rfl⟩, ko_X5_safest, ⟨Nat.le_of_ble_eq_true rfl, Nat.le_of_ble_eq_true rfl⟩⟩ rfl rfl (Nat.le_of_ble_eq_true rfl) dL_safest_4 ⟨Nat.le_of_ble_eq_true rfl, Nat.le_of_ble_eq_true rfl⟩) (fun ce q9 H locs hW hq hv hcl => ?_)
    by_cases h0 : E_ = "java/lang/IndexOutOfBoundsException"
    · replace hf := ite_t hf h0
      subst h0
      refine vx_catch (name := "java/lang/IndexOutOfBoundsException") X.2.2.1 [] ⟨0, 9, 12, 13⟩ [] (by rw [hxt]; rfl) (fun z hz => nomatch hz) (by decide) (by decide) (X.2.2.2.1 _ mw_632) (va_Nw.use rfl X.2.2.2.2.2.2.1.2.2.2.2.2.2.2.2.1) hq hv hcl ?_
      refine lv_astore_n (lv' := [(3, .ref q9), (0, .ref (ad g 12 0)), (1, .int x1), (2, .ref (ad g 34 0))]) hx hb dL_safest_12 rfl hl (by decide) rfl (fun ls hl => ?_)
      refine lv_iconst (v := 1) hx hb dL_safest_13 (by decide) ?_
      obtain ⟨hf, hm⟩ := prinj hf
      exact e_i X hr (hW.same hm.symm) hf dL_safest_14
    · replace hf := ite_f hf h0
      exact (no_some hf).elim
  · refine k_xi_r X hW (kx_V (As := [.int x1]) (rest := [.int 0, .ref (ad g 34 0)]) X hW hml hl.1 (c_X5_safest l g hDW hst _ mm (.inr r) e1) (r_recv X hW 12 0 (by decide) (by decide) rfl rfl) ⟨mw_933, kw_X5_safest⟩ ⟨⟨rfl, rfl⟩, ko_X5_safest, ⟨Nat.le_of_ble_eq_true rfl, Nat.le_of_ble_eq_true rfl⟩⟩ rfl rfl (Nat.le_of_ble_eq_true rfl) dL_safest_4 ⟨Nat.le_of_ble_eq_true rfl, Nat.le_of_ble_eq_true rfl⟩) (fun H locs hW => ?_)
    refine lv_i2l hx hb dL_safest_7 (v := r.toInt64) rfl ?_
    refine r_last X hW vp01 dL_safest_8 (fun H locs hW => ?_)
    refine lv_goto (tgt := 15) hx hb dL_safest_9 (by decide) ?_
    refine lv_iconst (v := 0) hx hb dL_safest_15 (by decide) ?_
    obtain ⟨hf, hm⟩ := prinj hf
    exact e_i X hr (hW.same hm.symm) hf dL_safest_16
