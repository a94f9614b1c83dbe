theorem va_D.addr {A : Nat → Prop} {w1 w2 : va_W} (h : va_D A w1) (he : w2.map Prod.fst = w1.map Prod.fst) : va_D A w2 := by
  have key : ∀ (i : Nat) (p : Nat × va_E), w2[i]? = some p → ∃ p1, w1[i]? = some p1 ∧ p1.1 = p.1 := by
    intro i p hp
    have h1 : (w2.map Prod.fst)[i]? = some p.1 := by rw [List.getElem?_map, hp]; rfl
    rw [he, List.getElem?_map] at h1
    cases hq : w1[i]? with
    | none => rw [hq] at h1; cases h1
    | some p1 => rw [hq] at h1; exact ⟨p1, rfl, Option.some.inj h1⟩
  refine ⟨fun i j p q hi hj hpq => ?_, fun k q hk => ?_⟩
  · obtain ⟨p1, a1, a2⟩ := key i p hi
    obtain ⟨q1, b1, b2⟩ := key j q hj
    exact h.1 i j p1 q1 a1 b1 (a2.trans (hpq.trans b2.symm))
  · obtain ⟨q1, b1, b2⟩ := key k q hk
    rw [← b2]
    exact h.2 k q1 b1
theorem last_ix {ws : va_W} {x : Nat × va_E} : (ws ++ [x])[ws.length]? = some x := by
  rw [List.getElem?_append_right (Nat.le_refl _), Nat.sub_self]
  rfl
theorem one_ix {x q : Nat × va_E} {k : Nat} (h : [x][k]? = some q) : x = q := by
  cases k with
  | zero => cases h; rfl
  | succ k => cases h
theorem va_P_last {D : va_G} {cl : List vw_C} {ws : va_W} {x : Nat × va_E} {H : Heap} (h : va_P D cl (ws ++ [x]) H) : va_P D cl [x] H := fun k q hk => by
  have e := one_ix hk
  subst e
  exact h ws.length x last_ix
theorem va_free_last {A : Nat → Prop} {ws : va_W} {x : Nat × va_E} {H0 H : Heap} {locs : List Loc} (hD : va_D A (ws ++ [x])) (hS : va_S A H0 H locs) (hA : ∀ q, H0.size ≤ q → A q) : ∀ q, va_A [x] H.size q → A q := by
  rintro q (⟨k, e, hk⟩ | h)
  · have z := one_ix hk
    subst z
    exact hD.2 ws.length (q, e) last_ix
  · exact hA q (Nat.le_trans hS.1 h)
theorem join_o {A : Nat → Prop} {D : va_G} {cl : List vw_C} {ws w2 : va_W} {x : Nat × va_E} {H H1 : Heap} (hP : va_P D cl (ws ++ [x]) H) (hD : va_D A (ws ++ [x])) (hk : ∀ q : Nat, q < H.size → ¬ va_A [x] H.size q → H1[q]? = H[q]?) (hF : ∀ q, va_A [x] H.size q → A q) (hP1 : va_P D cl w2 H1) (hD1 : va_D (va_A [x] H.size) w2) : va_P D cl (ws ++ w2) H1 ∧ va_D A (ws ++ w2) := by
  have left : ∀ (k : Nat) (q : Nat × va_E), ws[k]? = some q → (ws ++ [x])[k]? = some q := fun k q hq => by
    rw [List.getElem?_append_left (List.getElem?_eq_some_iff.mp hq).1]
    exact hq
  have apart : ∀ (k : Nat) (q : Nat × va_E), ws[k]? = some q → q.1 < H.size ∧ ¬ va_A [x] H.size q.1 := by
    intro k q hq
    have hk' := left k q hq
    have hl := (hP k q hk').lt
    refine ⟨hl, ?_⟩
    rintro (⟨k2, e, h⟩ | h)
    · have z := one_ix h
      have e1 := hD.1 k ws.length q x hk' last_ix (by rw [z])
      have e2 := (List.getElem?_eq_some_iff.mp hq).1
      omega
    · omega
  refine ⟨va_P.app (fun k q hq => ?_) hP1, va_D.app ⟨fun i j p q hi hj hpq => hD.1 i j p q (left i p hi) (left j q hj) hpq, fun k q hq => hD.2 k q (left k q hq)⟩ (hD1.weaken (fun k q _ h => hF q.1 h)) (fun i j p q hp hq hpq => ?_)⟩
  · obtain ⟨g1, g2⟩ := apart k q hq
    exact (hP k q (left k q hq)).kept (hk q.1 g1 g2)
  · exact (apart i p hp).2 (by rw [hpq]; exact hD1.2 j q hq)
def adf (ad1 ad2 : Nat → Nat → Nat) (q : Nat) : Nat → Nat → Nat := fun c t => if c < 21 then ad1 c t else if c < 34 then ad2 c t else q
theorem cel_lo (g : gG) (ad1 ad2 : Nat → Nat → Nat) (q : Nat) (mm : gM) (t : Nat) : ∀ c, c < 21 → cel (g.1, adf ad1 ad2 q, g.2.2) mm c t = cel (g.1, ad1, g.2.2) mm c t
  | 0, _ => rfl
  | 1, _ => rfl
  | 2, _ => rfl
  | 3, _ => rfl
  | 4, _ => rfl
  | 5, _ => rfl
  | 6, _ => rfl
  | 7, _ => rfl
  | 8, _ => rfl
  | 9, _ => rfl
  | 10, _ => rfl
  | 11, _ => rfl
  | 12, _ => rfl
  | 13, _ => rfl
  | 14, _ => rfl
  | 15, _ => rfl
  | 16, _ => rfl
  | 17, _ => rfl
  | 18, _ => rfl
  | 19, _ => rfl
  | 20, _ => rfl
  | (_ + 21), h => absurd h (by omega)
theorem cel_hi (g : gG) (ad1 ad2 : Nat → Nat → Nat) (q : Nat) (mm : gM) (t : Nat) : ∀ c, 21 ≤ c → c < 34 → cel (g.1, adf ad1 ad2 q, g.2.2) mm c t = cel (g.1, ad2, g.2.2) mm c t
  | 0, h, _ => absurd h (by omega)
  | 1, h, _ => absurd h (by omega)
  | 2, h, _ => absurd h (by omega)
  | 3, h, _ => absurd h (by omega)
  | 4, h, _ => absurd h (by omega)
  | 5, h, _ => absurd h (by omega)
  | 6, h, _ => absurd h (by omega)
  | 7, h, _ => absurd h (by omega)
  | 8, h, _ => absurd h (by omega)
  | 9, h, _ => absurd h (by omega)
  | 10, h, _ => absurd h (by omega)
  | 11, h, _ => absurd h (by omega)
  | 12, h, _ => absurd h (by omega)
  | 13, h, _ => absurd h (by omega)
  | 14, h, _ => absurd h (by omega)
  | 15, h, _ => absurd h (by omega)
  | 16, h, _ => absurd h (by omega)
  | 17, h, _ => absurd h (by omega)
  | 18, h, _ => absurd h (by omega)
  | 19, h, _ => absurd h (by omega)
  | 20, h, _ => absurd h (by omega)
  | 21, _, _ => rfl
  | 22, _, _ => rfl
  | 23, _, _ => rfl
  | 24, _, _ => rfl
  | 25, _, _ => rfl
  | 26, _, _ => rfl
  | 27, _, _ => rfl
  | 28, _, _ => rfl
  | 29, _, _ => rfl
  | 30, _, _ => rfl
  | 31, _, _ => rfl
  | 32, _, _ => rfl
  | 33, _, _ => rfl
  | (_ + 34), _, h => absurd h (by omega)
theorem LDc_lt : ∀ x ∈ LDc, x.1 < 21 := by decide +kernel
theorem RDc_lt : ∀ x ∈ RDc, 21 ≤ x.1 ∧ x.1 < 34 := by decide +kernel
theorem WL_join (g : gG) (ad1 ad2 : Nat → Nat → Nat) (q : Nat) : wl (g.1, adf ad1 ad2 q, g.2.2) mmI = (WL g LDc ad1 ++ WL g RDc ad2) ++ [(q, .inl (ca g 3, 1, .inr (.inl (fun _ => 0))))] := by
  have h1 : LDc.map (fun x => (ad (g.1, adf ad1 ad2 q, g.2.2) x.1 x.2, cel (g.1, adf ad1 ad2 q, g.2.2) mmI x.1 x.2)) = WL g LDc ad1 := List.map_congr_left (fun x hx => by
    have e := LDc_lt x hx
    rw [cel_lo g ad1 ad2 q mmI x.2 x.1 e]
    show (adf ad1 ad2 q x.1 x.2, _) = _
    unfold adf
    rw [if_pos e])
  have h2 : RDc.map (fun x => (ad (g.1, adf ad1 ad2 q, g.2.2) x.1 x.2, cel (g.1, adf ad1 ad2 q, g.2.2) mmI x.1 x.2)) = WL g RDc ad2 := List.map_congr_left (fun x hx => by
    have e := RDc_lt x hx
    rw [cel_hi g ad1 ad2 q mmI x.2 x.1 e.1 e.2]
    show (adf ad1 ad2 q x.1 x.2, _) = _
    unfold adf
    rw [if_neg (by omega), if_pos e.2])
  unfold wl
  rw [allc_eq, List.map_append, List.map_append, h1, h2]
  rfl
set_option maxRecDepth 100000 in
set_option maxHeartbeats 16000000 in
theorem whole_start {p : Program} {e : Env} {s : State} {m : MethodId} {below : List Frame} {meth : Method} {c : Code} (l : Launch) (hflags : l.flags = flags0) {b L : Nat} {xs : Nat → Int32} (hL : L ≤ 2048) (C0 : lw_At p s m meth c b L xs) : W p l e room_1 s m #[Value.ref b] below meth c s.heap [] 0 0 (lw_Z below #[Value.ref b] s) (entryFrame m ([Value.ref b] : List Value).toArray 9) := by
  obtain ⟨hx, hb, hr, hml, hown, hts0, hX, hbl, hlocks, hgv⟩ := id C0
  obtain ⟨g, hlo0, hFx, hO⟩ := fx_start hts0 hgv
  have hst := st_flags hflags
  have hlo : lo g ≤ s.heap.size := Nat.le_of_eq hlo0
  have hts : ∀ w ∈ ALLW, w.before #[Value.ref b] s = true := fun w hw => hts0 w (List.mem_filter.mp hw).1
  have Y : Ci g p s m #[Value.ref b] c meth RL cL_law := ⟨hx, hb, hown, hts, hFx, hlocks, trivial⟩
  have hK := hFx.1
  obtain ⟨A, hAd⟩ : ∃ A : Nat → Prop, A = gA g := ⟨_, rfl⟩
  have hA : ∀ q : Nat, s.heap.size ≤ q → A q := by rw [hAd]; exact fun q h => Nat.le_trans hlo h
  have hAg : ∀ q : Nat, A q → gA g q := by rw [hAd]; exact fun _ h => h
  have hS : va_S A s.heap s.heap [] := va_S.rf
  have hP : va_P g.1 vwCl [] s.heap := fun k q h => by simp at h
  have hD : va_D A [] := ⟨fun i j p q h => by simp at h, fun k q h => by simp at h⟩
  have hl := lv_entry ([.ref b] : List Value) (n := 9) (Nat.le_of_ble_eq_true rfl)
  rw [lg_entry_eq]
  generalize (lg_sl ([.ref b] : List Value) ++ List.replicate (9 - (lg_sl ([.ref b] : List Value)).length) Slot.unset).toArray = ls at hl ⊢
  have hl : lv_has ls 9 [(0, .ref b)] := hl
  show W p l e room_1 s m #[Value.ref b] below meth c s.heap [] 0 0 _ (F0 m 0 ls [])
  refine va_new (ci := 5) (fs := [.null, .null, .null, .null, .null, .null, .null, .null, .null, .int 0, .int 0]) (C := RX5) (T := TX5) (N := 11) hx hb hts inA_5 tyX5 tyX5_ok hown (hts _ mw_90) (hts _ mw_91) (hts _ mw_67) hK hP hD hS hA rfl (fun j hj => by rcases (show j = 0 ∨ j = 1 ∨ j = 2 ∨ j = 3 ∨ j = 4 ∨ j = 5 ∨ j = 6 ∨ j = 7 ∨ j = 8 ∨ j = 9 ∨ j = 10 by omega) with rfl | rfl | rfl | rfl | rfl | rfl | rfl | rfl | rfl | rfl | rfl <;> rfl) (Nat.le_of_ble_eq_true rfl) (Nat.le_of_ble_eq_true rfl) dL_law_0 (fun q1 H hP hD hS => ?_)
  refine lv_dup hx hb dL_law_3 rfl ?_
  have hPc := va_P_last hP
  have hFc := va_free_last hD hS hA
  refine k_init (Bp := B5 g q1 H.size) hS (i_runI Y hO hml hl.1 hlo hAg (rest := [.ref q1]) (ci_X5_init l g q1 H.size) hPc hS (hAg _ (hD.2 _ _ last_ix)) ⟨mw_92, kwi_X5_init⟩ ⟨⟨rfl, rfl⟩, ko_X5_init, ⟨Nat.le_of_ble_eq_true rfl, Nat.le_of_ble_eq_true rfl⟩⟩ rfl rfl (Nat.le_of_ble_eq_true rfl) dL_law_4 ⟨Nat.le_of_ble_eq_true rfl, Nat.le_of_ble_eq_true rfl⟩) hFc (fun H1 locs hB hk1 hS => ?_)
  obtain ⟨ad1, had1, hP1, hD1⟩ := ld_world hB
  obtain ⟨hP, hD⟩ := join_o hP hD hk1 hFc hP1 hD1
  have hP : va_P g.1 vwCl (WL g LDc ad1) H1 := hP
  have hD : va_D A (WL g LDc ad1) := hD
  obtain ⟨W1, hW1⟩ : ∃ W, W = WL g LDc ad1 := ⟨_, rfl⟩
  rw [← hW1] at hP hD
  clear hB hP1 hD1 hk1 hPc hFc
  refine lv_astore_n (lv' := [(1, .ref q1), (0, .ref b)]) hx hb dL_law_7 rfl hl (by decide) rfl (fun ls hl => ?_)
  refine va_new (ci := 6) (fs := [.int 0, .null, .null, .int 0, .null, .null, .null, .int 0, .int 0, .int 0, .null, .null, .int 0, .null, .null, .null, .null, .null, .long 0]) (C := RX6) (T := TX6) (N := 19) hx hb hts inA_6 tyX6 tyX6_ok hown (hts _ mw_937) (hts _ mw_938) (hts _ mw_73) hK hP hD hS hA rfl (fun j hj => by rcases (show j = 0 ∨ j = 1 ∨ j = 2 ∨ j = 3 ∨ j = 4 ∨ j = 5 ∨ j = 6 ∨ j = 7 ∨ j = 8 ∨ j = 9 ∨ j = 10 ∨ j = 11 ∨ j = 12 ∨ j = 13 ∨ j = 14 ∨ j = 15 ∨ j = 16 ∨ j = 17 ∨ j = 18 by omega) with rfl | rfl | rfl | rfl | rfl | rfl | rfl | rfl | rfl | rfl | rfl | rfl | rfl | rfl | rfl | rfl | rfl | rfl | rfl <;> rfl) (Nat.le_of_ble_eq_true rfl) (Nat.le_of_ble_eq_true rfl) dL_law_8 (fun q83 H hP hD hS => ?_)
  refine lv_dup hx hb dL_law_11 rfl ?_
  have hPc := va_P_last hP
  have hFc := va_free_last hD hS hA
  refine k_init (Bp := B6 g q83 H.size) hS (i_runI Y hO hml hl.1 hlo hAg (rest := [.ref q83]) (ci_X6_init l g q83 H.size) hPc hS (hAg _ (hD.2 _ _ last_ix)) ⟨mw_939, kwi_X6_init⟩ ⟨⟨rfl, rfl⟩, ko_X6_init, ⟨Nat.le_of_ble_eq_true rfl, Nat.le_of_ble_eq_true rfl⟩⟩ rfl rfl (Nat.le_of_ble_eq_true rfl) dL_law_12 ⟨Nat.le_of_ble_eq_true rfl, Nat.le_of_ble_eq_true rfl⟩) hFc (fun H1 locs hB hk1 hS => ?_)
  obtain ⟨ad2, had2, hP1, hD1⟩ := rd_world hB
  obtain ⟨hP, hD⟩ := join_o hP hD hk1 hFc hP1 hD1
  obtain ⟨W2, hW2⟩ : ∃ W, W = WL g RDc ad2 := ⟨_, rfl⟩
  rw [← hW2] at hP hD
  clear hB hP1 hD1 hk1 hPc hFc
  refine lv_astore_n (lv' := [(2, .ref q83), (1, .ref q1), (0, .ref b)]) hx hb dL_law_15 rfl hl (by decide) rfl (fun ls hl => ?_)
  refine lv_iconst (v := 1) hx hb dL_law_16 (by decide) ?_
  refine i_newa Y hP hD hS hA (ty := .long) rfl 3 rfl (fun C => by simp) mw_1329 (a0 := (1, .inr (.inl (fun _ => 0)))) (N' := 1) (fun _ => rfl) (by decide) (by decide) (Nat.le_of_ble_eq_true rfl) (Nat.le_of_ble_eq_true rfl) (Nat.le_of_ble_eq_true rfl) dL_law_17 (fun q96 H hP hD hS => ?_)
  refine lv_astore_n (lv' := [(3, .ref q96), (2, .ref q83), (1, .ref q1), (0, .ref b)]) hx hb dL_law_19 rfl hl (by decide) rfl (fun ls hl => ?_)
  refine lv_iconst (v := 0) hx hb dL_law_20 (by decide) ?_
  refine lv_istore (lv' := [(4, .int 0), (3, .ref q96), (2, .ref q83), (1, .ref q1), (0, .ref b)]) hx hb dL_law_21 hl (by decide) rfl (fun ls hl => ?_)
  have hPw : va_P g.1 vwCl (wl (g.1, adf ad1 ad2 q96, g.2.2) mmI) H := by
    rw [WL_join, ← hW1, ← hW2]
    exact hP
  have hDr : va_D A (wl (g.1, adf ad1 ad2 q96, g.2.2) mmI) := by
    rw [WL_join, ← hW1, ← hW2]
    exact hD
  rw [hAd] at hDr hS
  have hDW : DW (g.1, adf ad1 ad2 q96, g.2.2) := va_D.addr hDr (by unfold wl; rw [List.map_map, List.map_map]; rfl)
  have X : Cx (g.1, adf ad1 ad2 q96, g.2.2) p s m #[Value.ref b] c meth RL cL_law := ⟨hx, hb, hown, hts, hDW, fun q hq => Nat.le_trans hlo hq, hFx, hlocks⟩
  subst had1
  subst had2
  refine law_loop hDW hst X hml hX hbl (fun h => absurd (show lo g ≤ b from h) (by omega)) (fun pc H locs ls cells slots hd hlc hc hs => ?_) FU 0 mmI H _ ls _ _ (Nat.le_of_ble_eq_true rfl) (Nat.le_of_ble_eq_true rfl) ⟨hPw, hS⟩ (lv_sub hl [4, 3, 2, 1, 0] rfl) (pure_law xs L hL)
  refine va_forget (fun q hq => by have h1 : lo g ≤ q.base := hlc q hq; omega) ?_
  refine W.widen (k := 601024) (n := 7293034) hc hs ?_
  exact lw_ret (Drawn.sameBut.refl s.drawn lw_cs) hx hb hr hlocks hd
