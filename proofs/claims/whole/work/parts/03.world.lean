/-! THE WORLD: every cell that the law makes has a kind and an instance; ints by kind, instance, place; longs by kind, instance -/
abbrev gG : Type := va_G × (Nat → Nat → Nat) × (Nat → ClassId) × Nat × (Nat → Nat)
abbrev gM : Type := (Nat → Nat → Nat → Int32) × (Nat → Nat → Int64)
def gi (mm : gM) (c t i : Nat) : Int32 := mm.1 c t i
def gl (mm : gM) (c t : Nat) : Int64 := mm.2 c t
def si (mm : gM) (c t i : Nat) (v : Int32) : gM := (fun c1 t1 i1 => if c1 = c ∧ t1 = t ∧ i1 = i then v else mm.1 c1 t1 i1, mm.2)
def sl (mm : gM) (c t : Nat) (v : Int64) : gM := (mm.1, fun c1 t1 => if c1 = c ∧ t1 = t then v else mm.2 c1 t1)
def cy (mm : gM) (c t c0 t0 sp dp n : Nat) : gM := (fun c1 t1 i1 => if c1 = c ∧ t1 = t then va_cpy (mm.1 c0 t0) (mm.1 c t) sp dp n i1 else mm.1 c1 t1 i1, mm.2)
def cnt (c : Nat) : Nat := if c < 6 then 10 else if c < 11 then 2 else if c = 11 then 3 else if c < 35 then 1 else 0
def allc : List (Nat × Nat) := (List.range 35).flatMap fun c => (List.range (cnt c)).map fun t => (c, t)
def ad (g : gG) (c t : Nat) : Nat := g.2.1 c t
def ca (g : gG) (k : Nat) : ClassId := g.2.2.1 k
def lo (g : gG) : Nat := g.2.2.2.1
def sx (g : gG) (k : Nat) : Nat := g.2.2.2.2 k
def gA (g : gG) : Nat → Prop := fun q => lo g ≤ q
def cel (g : gG) (mm : gM) (c t : Nat) : va_E := match c with
  | 0 => .inr (2, [.ref (ad g 1 t), .ref (ad g 2 t), .ref (ad g 3 t), .ref (ad g 4 t), .ref (ad g 5 t), .int (gi mm 0 t 5), .int (gi mm 0 t 6), .int (gi mm 0 t 7), .int (gi mm 0 t 8), .int (gi mm 0 t 9)])
  | 1 => .inl (ca g 0, 6, .inl (fun i => gi mm 1 t i))
  | 2 => .inl (ca g 0, 6, .inl (fun i => gi mm 2 t i))
  | 3 => .inl (ca g 0, 6, .inl (fun i => gi mm 3 t i))
  | 4 => .inl (ca g 0, 48, .inl (fun i => gi mm 4 t i))
  | 5 => .inl (ca g 0, 4, .inl (fun i => gi mm 5 t i))
  | 6 => .inr (1, [.ref (ad g 0 t), .ref (ad g 7 t), .ref (ad g 8 t), .ref (ad g 9 t), .ref (ad g 10 t), .ref (ad g 11 t)])
  | 7 => .inl (ca g 0, 48, .inl (fun i => gi mm 7 t i))
  | 8 => .inl (ca g 0, 48, .inl (fun i => gi mm 8 t i))
  | 9 => .inl (ca g 0, 48, .inl (fun i => gi mm 9 t i))
  | 10 => .inl (ca g 1, 6, .inl (fun i => gi mm 10 t i))
  | 11 => .inr (4, [.int (gi mm 11 t 0), .int (gi mm 11 t 1), .int (gi mm 11 t 2), .int (gi mm 11 t 3), .int (gi mm 11 t 4), .int (gi mm 11 t 5), .int (gi mm 11 t 6), .int (gi mm 11 t 7)])
  | 12 => .inr (5, [.ref (ad g 6 0), .ref (ad g 0 0), .ref (ad g 6 1), .ref (ad g 13 0), .ref (ad g 11 2), .ref (ad g 16 0), .ref (ad g 18 0), .ref (ad g 19 0), .ref (ad g 20 0), .int (gi mm 12 t 9), .int (gi mm 12 t 10)])
  | 13 => .inr (0, [.ref (ad g 14 t), .ref (ad g 15 t)])
  | 14 => .inl (ca g 0, 6, .inl (fun i => gi mm 14 t i))
  | 15 => .inl (ca g 0, 6, .inl (fun i => gi mm 15 t i))
  | 16 => .inr (3, [.ref (ad g 17 t), .int (gi mm 16 t 1)])
  | 17 => .inl (ca g 2, 12, .inl (fun i => gi mm 17 t i))
  | 18 => .inl (ca g 4, 2, .inr (.inr (.inr (.inr (fun i => some (ad g 0 (2 + i)))))))
  | 19 => .inl (ca g 1, 2, .inl (fun i => gi mm 19 t i))
  | 20 => .inl (ca g 4, 6, .inr (.inr (.inr (.inr (fun i => some (ad g 0 (4 + i)))))))
  | 21 => .inr (6, [.int (gi mm 21 t 0), .ref (ad g 22 t), .ref (ad g 23 t), .int (gi mm 21 t 3), .ref (ad g 24 t), .ref (ad g 25 t), .ref (ad g 26 t), .int (gi mm 21 t 7), .int (gi mm 21 t 8), .int (gi mm 21 t 9), .ref (ad g 27 t), .ref (ad g 28 t), .int (gi mm 21 t 12), .ref (ad g 29 t), .ref (ad g 30 t), .ref (ad g 31 t), .ref (ad g 32 t), .ref (ad g 33 t), .long (gl mm 21 t)])
  | 22 => .inl (ca g 0, 80, .inl (fun i => gi mm 22 t i))
  | 23 => .inl (ca g 0, 480, .inl (fun i => gi mm 23 t i))
  | 24 => .inl (ca g 0, 160, .inl (fun i => gi mm 24 t i))
  | 25 => .inl (ca g 1, 2, .inl (fun i => gi mm 25 t i))
  | 26 => .inl (ca g 0, 12, .inl (fun i => gi mm 26 t i))
  | 27 => .inl (ca g 0, 7, .inl (fun i => gi mm 27 t i))
  | 28 => .inl (ca g 0, 7, .inl (fun i => gi mm 28 t i))
  | 29 => .inl (ca g 0, 48, .inl (fun i => gi mm 29 t i))
  | 30 => .inl (ca g 0, 48, .inl (fun i => gi mm 30 t i))
  | 31 => .inl (ca g 0, 48, .inl (fun i => gi mm 31 t i))
  | 32 => .inl (ca g 0, 48, .inl (fun i => gi mm 32 t i))
  | 33 => .inl (ca g 0, 6, .inl (fun i => gi mm 33 t i))
  | 34 => .inl (ca g 3, 1, .inr (.inl (fun _ => gl mm 34 t)))
  | _ => .inl (ca g 0, 0, .inl (fun _ => 0))
def wl (g : gG) (mm : gM) : va_W := allc.map (fun q => (ad g q.1 q.2, cel g mm q.1 q.2))
def tys (g : gG) : List (ClassId × FieldType) := [(ca g 0, .int), (ca g 1, .boolean), (ca g 2, .char), (ca g 3, .long), (ca g 4, .object "LitDigits$State")]
def mm0 : gM := (fun _ _ _ => 0, fun _ _ => 0)
def DW (g : gG) : Prop := va_D (gA g) (wl g mm0)
theorem wl_get {g : gG} {mm : gM} {q0 : Nat} {q : Nat × va_E} (h : (wl g mm)[q0]? = some q) : ∃ x : Nat × Nat, allc[q0]? = some x ∧ q = (ad g x.1 x.2, cel g mm x.1 x.2) := by
  unfold wl at h
  rw [List.getElem?_map] at h
  cases hx : allc[q0]? with
  | none => rw [hx] at h; cases h
  | some x => rw [hx] at h; exact ⟨x, rfl, (Option.some.inj h).symm⟩
theorem wl_at {g : gG} {mm : gM} {q0 : Nat} {x : Nat × Nat} (h : allc[q0]? = some x) : (wl g mm)[q0]? = some (ad g x.1 x.2, cel g mm x.1 x.2) := by
  unfold wl
  rw [List.getElem?_map, h]
  rfl
theorem DW.all {g : gG} (h : DW g) (mm : gM) : va_D (gA g) (wl g mm) := by
  refine ⟨fun i j p q hi hj hpq => ?_, fun k q hk => ?_⟩
  · obtain ⟨x, h1, rfl⟩ := wl_get hi
    obtain ⟨y, h2, rfl⟩ := wl_get hj
    exact h.1 i j _ _ (wl_at h1) (wl_at h2) hpq
  · obtain ⟨x, h1, rfl⟩ := wl_get hk
    exact h.2 k (ad g x.1 x.2, cel g mm0 x.1 x.2) (wl_at h1)
theorem mem_allc {c t : Nat} (hc : c < 35) (ht : t < cnt c) : ∃ q0 : Nat, allc[q0]? = some (c, t) :=
  List.getElem?_of_mem (List.mem_flatMap.mpr ⟨c, List.mem_range.mpr hc, List.mem_map.mpr ⟨t, List.mem_range.mpr ht, rfl⟩⟩)
set_option maxRecDepth 20000 in
theorem allc_nd : ∀ i : Fin allc.length, ∀ j : Fin allc.length, allc[i]? = allc[j]? → i = j := by decide +kernel
theorem allc_inj {i j : Nat} {x : Nat × Nat} (hi : allc[i]? = some x) (hj : allc[j]? = some x) : i = j := by
  have h1 := (List.getElem?_eq_some_iff.mp hi).1
  have h2 := (List.getElem?_eq_some_iff.mp hj).1
  have h3 := allc_nd ⟨i, h1⟩ ⟨j, h2⟩ (by show allc[i]? = allc[j]?; rw [hi, hj])
  exact congrArg Fin.val h3
theorem wl_set {g : gG} {mm m1 : gM} {q0 c t : Nat} {e : va_E} (hq : allc[q0]? = some (c, t)) (he : cel g m1 c t = e) (hn : ∀ c1 t1, ¬ (c1 = c ∧ t1 = t) → cel g m1 c1 t1 = cel g mm c1 t1) : (wl g mm).set q0 (ad g c t, e) = wl g m1 := by
  apply List.ext_getElem?
  intro i
  by_cases hi : i = q0
  · subst hi
    have hl : i < (wl g mm).length := by
      have := (List.getElem?_eq_some_iff.mp hq).1
      unfold wl
      rw [List.length_map]
      exact this
    rw [List.getElem?_set_self hl, wl_at hq, he]
  · rw [List.getElem?_set_ne (Ne.symm hi)]
    unfold wl
    rw [List.getElem?_map, List.getElem?_map]
    cases hx : allc[i]? with
    | none => rfl
    | some x =>
      have : ¬ (x.1 = c ∧ x.2 = t) := by
        intro z
        have hxe : x = (c, t) := by
          obtain ⟨a, b⟩ := x
          obtain ⟨z1, z2⟩ := z
          dsimp only at z1 z2
          rw [z1, z2]
        rw [hxe] at hx
        exact hi (allc_inj hx hq)
      show some (ad g x.1 x.2, cel g mm x.1 x.2) = some (ad g x.1 x.2, cel g m1 x.1 x.2)
      rw [hn _ _ this]
theorem cel_congr0 {g : gG} {mm m1 : gM} {t : Nat} : ∀ (c : Nat), (∀ i, gi m1 c t i = gi mm c t i) → gl m1 c t = gl mm c t → cel g m1 c t = cel g mm c t
  | 0, h1, h2 => by first | rfl | simp only [cel, h1, h2] | simp only [cel, h1] | simp only [cel, h2]
  | 1, h1, h2 => by first | rfl | simp only [cel, h1, h2] | simp only [cel, h1] | simp only [cel, h2]
  | 2, h1, h2 => by first | rfl | simp only [cel, h1, h2] | simp only [cel, h1] | simp only [cel, h2]
  | 3, h1, h2 => by first | rfl | simp only [cel, h1, h2] | simp only [cel, h1] | simp only [cel, h2]
  | 4, h1, h2 => by first | rfl | simp only [cel, h1, h2] | simp only [cel, h1] | simp only [cel, h2]
  | 5, h1, h2 => by first | rfl | simp only [cel, h1, h2] | simp only [cel, h1] | simp only [cel, h2]
  | 6, h1, h2 => by first | rfl | simp only [cel, h1, h2] | simp only [cel, h1] | simp only [cel, h2]
  | 7, h1, h2 => by first | rfl | simp only [cel, h1, h2] | simp only [cel, h1] | simp only [cel, h2]
  | 8, h1, h2 => by first | rfl | simp only [cel, h1, h2] | simp only [cel, h1] | simp only [cel, h2]
  | 9, h1, h2 => by first | rfl | simp only [cel, h1, h2] | simp only [cel, h1] | simp only [cel, h2]
  | 10, h1, h2 => by first | rfl | simp only [cel, h1, h2] | simp only [cel, h1] | simp only [cel, h2]
  | 11, h1, h2 => by first | rfl | simp only [cel, h1, h2] | simp only [cel, h1] | simp only [cel, h2]
  | 12, h1, h2 => by first | rfl | simp only [cel, h1, h2] | simp only [cel, h1] | simp only [cel, h2]
  | 13, h1, h2 => by first | rfl | simp only [cel, h1, h2] | simp only [cel, h1] | simp only [cel, h2]
  | 14, h1, h2 => by first | rfl | simp only [cel, h1, h2] | simp only [cel, h1] | simp only [cel, h2]
  | 15, h1, h2 => by first | rfl | simp only [cel, h1, h2] | simp only [cel, h1] | simp only [cel, h2]
  | 16, h1, h2 => by first | rfl | simp only [cel, h1, h2] | simp only [cel, h1] | simp only [cel, h2]
  | 17, h1, h2 => by first | rfl | simp only [cel, h1, h2] | simp only [cel, h1] | simp only [cel, h2]
  | 18, h1, h2 => by first | rfl | simp only [cel, h1, h2] | simp only [cel, h1] | simp only [cel, h2]
  | 19, h1, h2 => by first | rfl | simp only [cel, h1, h2] | simp only [cel, h1] | simp only [cel, h2]
  | 20, h1, h2 => by first | rfl | simp only [cel, h1, h2] | simp only [cel, h1] | simp only [cel, h2]
  | 21, h1, h2 => by first | rfl | simp only [cel, h1, h2] | simp only [cel, h1] | simp only [cel, h2]
  | 22, h1, h2 => by first | rfl | simp only [cel, h1, h2] | simp only [cel, h1] | simp only [cel, h2]
  | 23, h1, h2 => by first | rfl | simp only [cel, h1, h2] | simp only [cel, h1] | simp only [cel, h2]
  | 24, h1, h2 => by first | rfl | simp only [cel, h1, h2] | simp only [cel, h1] | simp only [cel, h2]
  | 25, h1, h2 => by first | rfl | simp only [cel, h1, h2] | simp only [cel, h1] | simp only [cel, h2]
  | 26, h1, h2 => by first | rfl | simp only [cel, h1, h2] | simp only [cel, h1] | simp only [cel, h2]
  | 27, h1, h2 => by first | rfl | simp only [cel, h1, h2] | simp only [cel, h1] | simp only [cel, h2]
  | 28, h1, h2 => by first | rfl | simp only [cel, h1, h2] | simp only [cel, h1] | simp only [cel, h2]
  | 29, h1, h2 => by first | rfl | simp only [cel, h1, h2] | simp only [cel, h1] | simp only [cel, h2]
  | 30, h1, h2 => by first | rfl | simp only [cel, h1, h2] | simp only [cel, h1] | simp only [cel, h2]
  | 31, h1, h2 => by first | rfl | simp only [cel, h1, h2] | simp only [cel, h1] | simp only [cel, h2]
  | 32, h1, h2 => by first | rfl | simp only [cel, h1, h2] | simp only [cel, h1] | simp only [cel, h2]
  | 33, h1, h2 => by first | rfl | simp only [cel, h1, h2] | simp only [cel, h1] | simp only [cel, h2]
  | 34, h1, h2 => by first | rfl | simp only [cel, h1, h2] | simp only [cel, h1] | simp only [cel, h2]
  | (_ + 35), _, _ => rfl
theorem cel_congr {g : gG} {mm m1 : gM} {c t : Nat} (h1 : ∀ i, gi m1 c t i = gi mm c t i) (h2 : gl m1 c t = gl mm c t) : cel g m1 c t = cel g mm c t := cel_congr0 c h1 h2
theorem gi_si (mm : gM) (c t i : Nat) (v : Int32) (c1 t1 i1 : Nat) : gi (si mm c t i v) c1 t1 i1 = if c1 = c ∧ t1 = t ∧ i1 = i then v else gi mm c1 t1 i1 := rfl
theorem gl_si (mm : gM) (c t i : Nat) (v : Int32) (c1 t1 : Nat) : gl (si mm c t i v) c1 t1 = gl mm c1 t1 := rfl
theorem gi_sl (mm : gM) (c t : Nat) (v : Int64) (c1 t1 i1 : Nat) : gi (sl mm c t v) c1 t1 i1 = gi mm c1 t1 i1 := rfl
theorem gl_sl (mm : gM) (c t : Nat) (v : Int64) (c1 t1 : Nat) : gl (sl mm c t v) c1 t1 = if c1 = c ∧ t1 = t then v else gl mm c1 t1 := rfl
theorem gi_cy (mm : gM) (c t c0 t0 sp dp n c1 t1 i1 : Nat) : gi (cy mm c t c0 t0 sp dp n) c1 t1 i1 = if c1 = c ∧ t1 = t then va_cpy (fun i => gi mm c0 t0 i) (fun i => gi mm c t i) sp dp n i1 else gi mm c1 t1 i1 := rfl
theorem gl_cy (mm : gM) (c t c0 t0 sp dp n c1 t1 : Nat) : gl (cy mm c t c0 t0 sp dp n) c1 t1 = gl mm c1 t1 := rfl
theorem si_off {g : gG} {mm : gM} {c t i : Nat} {v : Int32} : ∀ c1 t1, ¬ (c1 = c ∧ t1 = t) → cel g (si mm c t i v) c1 t1 = cel g mm c1 t1 := fun c1 t1 h => cel_congr (fun j => by rw [gi_si, if_neg (fun z => h ⟨z.1, z.2.1⟩)]) (gl_si ..)
theorem sl_off {g : gG} {mm : gM} {c t : Nat} {v : Int64} : ∀ c1 t1, ¬ (c1 = c ∧ t1 = t) → cel g (sl mm c t v) c1 t1 = cel g mm c1 t1 := fun c1 t1 h => cel_congr (fun _ => gi_sl ..) (by rw [gl_sl, if_neg h])
theorem cy_off {g : gG} {mm : gM} {c t c0 t0 sp dp n : Nat} : ∀ c1 t1, ¬ (c1 = c ∧ t1 = t) → cel g (cy mm c t c0 t0 sp dp n) c1 t1 = cel g mm c1 t1 := fun c1 t1 h => cel_congr (fun j => by rw [gi_cy, if_neg h]) (gl_cy ..)
theorem si_upd (mm : gM) (c t i : Nat) (v : Int32) : (fun j => gi (si mm c t i v) c t j) = upd (fun j => gi mm c t j) i v := by
  funext j
  rw [gi_si]
  unfold upd
  by_cases h : j = i
  · rw [if_pos ⟨rfl, rfl, h⟩, if_pos h]
  · rw [if_neg (fun z => h z.2.2), if_neg h]
theorem cy_upd (mm : gM) (c t c0 t0 sp dp n : Nat) : (fun j => gi (cy mm c t c0 t0 sp dp n) c t j) = va_cpy (fun i => gi mm c0 t0 i) (fun i => gi mm c t i) sp dp n := by
  funext j
  rw [gi_cy, if_pos ⟨rfl, rfl⟩]
def Wd (g : gG) (mm : gM) (s : State) (H : Heap) (locs : List Loc) : Prop := va_P g.1 vwCl (wl g mm) H ∧ va_S (gA g) s.heap H locs
theorem Wd.same {g : gG} {mm m1 : gM} {s : State} {H : Heap} {locs : List Loc} (h : Wd g mm s H locs) (e : m1 = mm) : Wd g m1 s H locs := e ▸ h
/-- the words that every method needs: all of the tables' that a call carries on -/
def ALLW : List Cond := lw_tbl.filter goodWord
theorem ALLW_in {k : Nat} {w : Cond} (h : lw_tbl[k]? = some w) (hg : goodWord w = true) : w ∈ ALLW := List.mem_filter.mpr ⟨List.mem_of_getElem? h, hg⟩
theorem ALLW_good : ∀ w ∈ ALLW, (w.onTables && w.keeps) = true ∨ ∃ ty, w = .arrayClass ty := fun w h => good_of_word (List.mem_filter.mp h).2
theorem ALLW_cons {w : Cond} (h : w ∈ ALLW) : GoodIn ALLW (w :: ALLW) := fun x hx => by
  rcases List.mem_cons.mp hx with rfl | hx
  · exact ⟨h, ALLW_good _ h⟩
  · exact ⟨hx, ALLW_good _ hx⟩
theorem ALLW_self : GoodIn ALLW ALLW := fun x hx => ⟨hx, ALLW_good _ hx⟩
set_option maxRecDepth 20000 in
theorem inA_0 : ∀ w ∈ u_ws RX0 TX0 2, w ∈ ALLW := by decide +kernel
set_option maxRecDepth 20000 in
theorem inA_1 : ∀ w ∈ u_ws RX1 TX1 6, w ∈ ALLW := by decide +kernel
set_option maxRecDepth 20000 in
theorem inA_2 : ∀ w ∈ u_ws RX2 TX2 10, w ∈ ALLW := by decide +kernel
set_option maxRecDepth 20000 in
theorem inA_3 : ∀ w ∈ u_ws RX3 TX3 2, w ∈ ALLW := by decide +kernel
set_option maxRecDepth 20000 in
theorem inA_4 : ∀ w ∈ u_ws RX4 TX4 8, w ∈ ALLW := by decide +kernel
set_option maxRecDepth 20000 in
theorem inA_5 : ∀ w ∈ u_ws RX5 TX5 11, w ∈ ALLW := by decide +kernel
set_option maxRecDepth 20000 in
theorem inA_6 : ∀ w ∈ u_ws RX6 TX6 19, w ∈ ALLW := by decide +kernel
