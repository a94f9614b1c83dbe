/-! BASE of the methods: the functions' pieces, rows of fields, of statics, of texts, words -/
noncomputable def chk {α : Type} (b : Prop) (k : Option α) : Option α := @ite _ b (Classical.propDecidable b) k none
theorem chk_ex {α : Type} {b : Prop} {k : Option α} {r : α} (h : chk b k = some r) : b ∧ k = some r := by
  unfold chk at h
  by_cases hb : b
  · rw [if_pos hb] at h; exact ⟨hb, h⟩
  · rw [if_neg hb] at h; cases h
theorem chk_t {α : Type} {b : Prop} {k : Option α} (hb : b) : chk b k = k := by unfold chk; rw [if_pos hb]
def wth {α β : Type} (a : α) (k : α → β) : β := k a
theorem wth_ex {α β : Type} {a : α} {k : α → Option β} {r : β} (h : wth a k = some r) : ∃ x, x = a ∧ k x = some r := ⟨a, rfl, h⟩
def bnd {α β : Type} (o : Option α) (k : α → Option β) : Option β := match o with
  | none => none
  | some a => k a
theorem bnd_ex {α β : Type} {o : Option α} {k : α → Option β} {r : β} (h : bnd o k = some r) : ∃ a, o = some a ∧ k a = some r := by
  cases o with
  | none => cases h
  | some a => exact ⟨a, rfl, h⟩
def bn2 {α β γ : Type} (o : Option (α × β)) (k : α → β → Option γ) : Option γ := match o with
  | none => none
  | some a => k a.1 a.2
theorem bn2_ex {α β γ : Type} {o : Option (α × β)} {k : α → β → Option γ} {r : γ} (h : bn2 o k = some r) : ∃ a b, o = some (a, b) ∧ k a b = some r := by
  cases o with
  | none => cases h
  | some a => exact ⟨a.1, a.2, rfl, h⟩
def bx {α β : Type} (o : Option (String ⊕ α)) (x : String → Option β) (k : α → Option β) : Option β := match o with
  | none => none
  | some (.inl E) => x E
  | some (.inr a) => k a
theorem bx_ex {α β : Type} {o : Option (String ⊕ α)} {x : String → Option β} {k : α → Option β} {r : β} (h : bx o x k = some r) : (∃ E, o = some (.inl E) ∧ x E = some r) ∨ ∃ a, o = some (.inr a) ∧ k a = some r := by
  cases o with
  | none => cases h
  | some a => cases a with
    | inl E => exact Or.inl ⟨E, rfl, h⟩
    | inr a => exact Or.inr ⟨a, rfl, h⟩
def bx2 {α β γ : Type} (o : Option ((String ⊕ α) × γ)) (x : String → γ → Option β) (k : α → γ → Option β) : Option β := match o with
  | none => none
  | some (.inl E, m) => x E m
  | some (.inr a, m) => k a m
theorem bx2_ex {α β γ : Type} {o : Option ((String ⊕ α) × γ)} {x : String → γ → Option β} {k : α → γ → Option β} {r : β} (h : bx2 o x k = some r) : (∃ E m, o = some (.inl E, m) ∧ x E m = some r) ∨ ∃ a m, o = some (.inr a, m) ∧ k a m = some r := by
  cases o with
  | none => cases h
  | some a =>
    obtain ⟨a, m⟩ := a
    cases a with
    | inl E => exact Or.inl ⟨E, m, rfl, h⟩
    | inr a => exact Or.inr ⟨a, m, rfl, h⟩
theorem no_some {α : Type} {r : α} (h : (none : Option α) = some r) : False := by cases h
theorem someinj {α : Type} {a b : α} (h : some a = some b) : a = b := Option.some.inj h
theorem prinj {α β : Type} {a c : α} {b d : β} (h : some (a, b) = some (c, d)) : a = c ∧ b = d := by cases h; exact ⟨rfl, rfl⟩
theorem prinjx {α β : Type} {a c : α} {b d : β} (h : some ((Sum.inr a : String ⊕ α), b) = some (Sum.inr c, d)) : a = c ∧ b = d := by cases h; exact ⟨rfl, rfl⟩
theorem ite_t {α : Type} {b : Prop} {inst : Decidable b} {x y r : α} (h : (@ite _ b inst x y) = r) (hb : b) : x = r := by rw [if_pos hb] at h; exact h
theorem ite_f {α : Type} {b : Prop} {inst : Decidable b} {x y r : α} (h : (@ite _ b inst x y) = r) (hb : ¬ b) : y = r := by rw [if_neg hb] at h; exact h
def FU : Nat := 4096
def ush (x y : Int32) : Int32 := (x.toUInt32 >>> (y.toUInt32 &&& Int32.toUInt32 31)).toInt32
def lsh (x : Int64) (y : Int32) : Int64 := x <<< (y.toInt64 &&& 63)
def irm (x y : Int32) : Int32 := x - x / y * y
def i2c (x : Int32) : Int32 := (x.toUInt32 % 65536).toInt32
def mx (x y : Int32) : Int32 := if x < y then y else x
def mn (x y : Int32) : Int32 := if y < x then y else x
def rawL (b : UInt64) : Int64 := b.toInt64
def rawI (b : UInt32) : Int32 := b.toInt32
def bz (x : Int32) : Prop := narrow .boolean (.int x) = .int x ∧ fits .boolean (.int x) = true
def bc (x : Int32) : Prop := narrow .char (.int x) = .int x
theorem bz_n {x : Int32} (h : bz x) : narrow .boolean (.int x) = .int x := h.1
theorem bc_n {x : Int32} (h : bc x) : narrow .char (.int x) = .int x := h
theorem bb_n {x : Int32} (h : x.toInt8.toInt32 = x) : narrow .byte (.int x) = .int x := by
  show Value.int x.toInt8.toInt32 = .int x
  rw [h]
theorem tb_out0_9 {x : Int32} (c0 : ¬ x = 0) (c1 : ¬ x = 1) (c2 : ¬ x = 2) (c3 : ¬ x = 3) (c4 : ¬ x = 4) (c5 : ¬ x = 5) (c6 : ¬ x = 6) (c7 : ¬ x = 7) (c8 : ¬ x = 8) : x.toInt < 0 ∨ (8 : Int) < x.toInt := by
  rcases Int.lt_or_le x.toInt 0 with h | h
  · exact Or.inl h
  rcases Int.lt_or_le (8 : Int) x.toInt with h1 | h1
  · exact Or.inr h1
  rcases (show x.toInt = 0 ∨ x.toInt = 1 ∨ x.toInt = 2 ∨ x.toInt = 3 ∨ x.toInt = 4 ∨ x.toInt = 5 ∨ x.toInt = 6 ∨ x.toInt = 7 ∨ x.toInt = 8 by omega) with h2 | h2 | h2 | h2 | h2 | h2 | h2 | h2 | h2
  · exact absurd (Int32.toInt_inj.mp (h2.trans (show (0 : Int) = (0 : Int32).toInt by decide))) c0
  · exact absurd (Int32.toInt_inj.mp (h2.trans (show (1 : Int) = (1 : Int32).toInt by decide))) c1
  · exact absurd (Int32.toInt_inj.mp (h2.trans (show (2 : Int) = (2 : Int32).toInt by decide))) c2
  · exact absurd (Int32.toInt_inj.mp (h2.trans (show (3 : Int) = (3 : Int32).toInt by decide))) c3
  · exact absurd (Int32.toInt_inj.mp (h2.trans (show (4 : Int) = (4 : Int32).toInt by decide))) c4
  · exact absurd (Int32.toInt_inj.mp (h2.trans (show (5 : Int) = (5 : Int32).toInt by decide))) c5
  · exact absurd (Int32.toInt_inj.mp (h2.trans (show (6 : Int) = (6 : Int32).toInt by decide))) c6
  · exact absurd (Int32.toInt_inj.mp (h2.trans (show (7 : Int) = (7 : Int32).toInt by decide))) c7
  · exact absurd (Int32.toInt_inj.mp (h2.trans (show (8 : Int) = (8 : Int32).toInt by decide))) c8
theorem tb_out0_12 {x : Int32} (c0 : ¬ x = 0) (c1 : ¬ x = 1) (c2 : ¬ x = 2) (c3 : ¬ x = 3) (c4 : ¬ x = 4) (c5 : ¬ x = 5) (c6 : ¬ x = 6) (c7 : ¬ x = 7) (c8 : ¬ x = 8) (c9 : ¬ x = 9) (c10 : ¬ x = 10) (c11 : ¬ x = 11) : x.toInt < 0 ∨ (11 : Int) < x.toInt := by
  rcases Int.lt_or_le x.toInt 0 with h | h
  · exact Or.inl h
  rcases Int.lt_or_le (11 : Int) x.toInt with h1 | h1
  · exact Or.inr h1
  rcases (show x.toInt = 0 ∨ x.toInt = 1 ∨ x.toInt = 2 ∨ x.toInt = 3 ∨ x.toInt = 4 ∨ x.toInt = 5 ∨ x.toInt = 6 ∨ x.toInt = 7 ∨ x.toInt = 8 ∨ x.toInt = 9 ∨ x.toInt = 10 ∨ x.toInt = 11 by omega) with h2 | h2 | h2 | h2 | h2 | h2 | h2 | h2 | h2 | h2 | h2 | h2
  · exact absurd (Int32.toInt_inj.mp (h2.trans (show (0 : Int) = (0 : Int32).toInt by decide))) c0
  · exact absurd (Int32.toInt_inj.mp (h2.trans (show (1 : Int) = (1 : Int32).toInt by decide))) c1
  · exact absurd (Int32.toInt_inj.mp (h2.trans (show (2 : Int) = (2 : Int32).toInt by decide))) c2
  · exact absurd (Int32.toInt_inj.mp (h2.trans (show (3 : Int) = (3 : Int32).toInt by decide))) c3
  · exact absurd (Int32.toInt_inj.mp (h2.trans (show (4 : Int) = (4 : Int32).toInt by decide))) c4
  · exact absurd (Int32.toInt_inj.mp (h2.trans (show (5 : Int) = (5 : Int32).toInt by decide))) c5
  · exact absurd (Int32.toInt_inj.mp (h2.trans (show (6 : Int) = (6 : Int32).toInt by decide))) c6
  · exact absurd (Int32.toInt_inj.mp (h2.trans (show (7 : Int) = (7 : Int32).toInt by decide))) c7
  · exact absurd (Int32.toInt_inj.mp (h2.trans (show (8 : Int) = (8 : Int32).toInt by decide))) c8
  · exact absurd (Int32.toInt_inj.mp (h2.trans (show (9 : Int) = (9 : Int32).toInt by decide))) c9
  · exact absurd (Int32.toInt_inj.mp (h2.trans (show (10 : Int) = (10 : Int32).toInt by decide))) c10
  · exact absurd (Int32.toInt_inj.mp (h2.trans (show (11 : Int) = (11 : Int32).toInt by decide))) c11
theorem tb_out0_17 {x : Int32} (c0 : ¬ x = 0) (c1 : ¬ x = 1) (c2 : ¬ x = 2) (c3 : ¬ x = 3) (c4 : ¬ x = 4) (c5 : ¬ x = 5) (c6 : ¬ x = 6) (c7 : ¬ x = 7) (c8 : ¬ x = 8) (c9 : ¬ x = 9) (c10 : ¬ x = 10) (c11 : ¬ x = 11) (c12 : ¬ x = 12) (c13 : ¬ x = 13) (c14 : ¬ x = 14) (c15 : ¬ x = 15) (c16 : ¬ x = 16) : x.toInt < 0 ∨ (16 : Int) < x.toInt := by
  rcases Int.lt_or_le x.toInt 0 with h | h
  · exact Or.inl h
  rcases Int.lt_or_le (16 : Int) x.toInt with h1 | h1
  · exact Or.inr h1
  rcases (show x.toInt = 0 ∨ x.toInt = 1 ∨ x.toInt = 2 ∨ x.toInt = 3 ∨ x.toInt = 4 ∨ x.toInt = 5 ∨ x.toInt = 6 ∨ x.toInt = 7 ∨ x.toInt = 8 ∨ x.toInt = 9 ∨ x.toInt = 10 ∨ x.toInt = 11 ∨ x.toInt = 12 ∨ x.toInt = 13 ∨ x.toInt = 14 ∨ x.toInt = 15 ∨ x.toInt = 16 by omega) with h2 | h2 | h2 | h2 | h2 | h2 | h2 | h2 | h2 | h2 | h2 | h2 | h2 | h2 | h2 | h2 | h2
  · exact absurd (Int32.toInt_inj.mp (h2.trans (show (0 : Int) = (0 : Int32).toInt by decide))) c0
  · exact absurd (Int32.toInt_inj.mp (h2.trans (show (1 : Int) = (1 : Int32).toInt by decide))) c1
  · exact absurd (Int32.toInt_inj.mp (h2.trans (show (2 : Int) = (2 : Int32).toInt by decide))) c2
  · exact absurd (Int32.toInt_inj.mp (h2.trans (show (3 : Int) = (3 : Int32).toInt by decide))) c3
  · exact absurd (Int32.toInt_inj.mp (h2.trans (show (4 : Int) = (4 : Int32).toInt by decide))) c4
  · exact absurd (Int32.toInt_inj.mp (h2.trans (show (5 : Int) = (5 : Int32).toInt by decide))) c5
  · exact absurd (Int32.toInt_inj.mp (h2.trans (show (6 : Int) = (6 : Int32).toInt by decide))) c6
  · exact absurd (Int32.toInt_inj.mp (h2.trans (show (7 : Int) = (7 : Int32).toInt by decide))) c7
  · exact absurd (Int32.toInt_inj.mp (h2.trans (show (8 : Int) = (8 : Int32).toInt by decide))) c8
  · exact absurd (Int32.toInt_inj.mp (h2.trans (show (9 : Int) = (9 : Int32).toInt by decide))) c9
  · exact absurd (Int32.toInt_inj.mp (h2.trans (show (10 : Int) = (10 : Int32).toInt by decide))) c10
  · exact absurd (Int32.toInt_inj.mp (h2.trans (show (11 : Int) = (11 : Int32).toInt by decide))) c11
  · exact absurd (Int32.toInt_inj.mp (h2.trans (show (12 : Int) = (12 : Int32).toInt by decide))) c12
  · exact absurd (Int32.toInt_inj.mp (h2.trans (show (13 : Int) = (13 : Int32).toInt by decide))) c13
  · exact absurd (Int32.toInt_inj.mp (h2.trans (show (14 : Int) = (14 : Int32).toInt by decide))) c14
  · exact absurd (Int32.toInt_inj.mp (h2.trans (show (15 : Int) = (15 : Int32).toInt by decide))) c15
  · exact absurd (Int32.toInt_inj.mp (h2.trans (show (16 : Int) = (16 : Int32).toInt by decide))) c16
theorem tb_out4_6 {x : Int32} (c4 : ¬ x = 4) (c5 : ¬ x = 5) (c6 : ¬ x = 6) (c7 : ¬ x = 7) (c8 : ¬ x = 8) (c9 : ¬ x = 9) : x.toInt < 4 ∨ (9 : Int) < x.toInt := by
  rcases Int.lt_or_le x.toInt 4 with h | h
  · exact Or.inl h
  rcases Int.lt_or_le (9 : Int) x.toInt with h1 | h1
  · exact Or.inr h1
  rcases (show x.toInt = 4 ∨ x.toInt = 5 ∨ x.toInt = 6 ∨ x.toInt = 7 ∨ x.toInt = 8 ∨ x.toInt = 9 by omega) with h2 | h2 | h2 | h2 | h2 | h2
  · exact absurd (Int32.toInt_inj.mp (h2.trans (show (4 : Int) = (4 : Int32).toInt by decide))) c4
  · exact absurd (Int32.toInt_inj.mp (h2.trans (show (5 : Int) = (5 : Int32).toInt by decide))) c5
  · exact absurd (Int32.toInt_inj.mp (h2.trans (show (6 : Int) = (6 : Int32).toInt by decide))) c6
  · exact absurd (Int32.toInt_inj.mp (h2.trans (show (7 : Int) = (7 : Int32).toInt by decide))) c7
  · exact absurd (Int32.toInt_inj.mp (h2.trans (show (8 : Int) = (8 : Int32).toInt by decide))) c8
  · exact absurd (Int32.toInt_inj.mp (h2.trans (show (9 : Int) = (9 : Int32).toInt by decide))) c9
theorem Met_ofWF {l : Launch} {y : MethodName} {ws ws' : List Cond} {rm : Room} {Pc : Array Value → State → Prop} {Qc : Array Value → State → Outcome → State → Prop} {mc ms : Nat} {free : Addr → Prop} {cc : ByteArray} {maxL : Nat} {ret : Option FieldType}
    (hy : plainFor y = true) (hw : ws = Cond.code y cc maxL ret :: ws')
    (body : ∀ p e s m args below meth c s₁, BodyLoose p l y (headSpec ws rm) cc maxL ret e s m args below meth c s₁ → c.maxLocals = maxL → Pc args s →
      W p l e (headSpec ws rm).room s m args below meth c s.heap [] 0 0 (MQ below Qc args s mc ms free) (entryFrame m args maxL)) : Met l y ws rm Pc Qc mc ms free := by
  refine MetFree.of_bodySF (code := cc) (maxLocals := maxL) (ret := ret) hy ?_ ?_
  · intro args s m h hn
    obtain ⟨meth, c, h1, h2, h3, h4, h5, h6, -, -⟩ := Cond.code_spec hn (atoms_spec (ws := ws) h _ (by rw [hw]; exact List.mem_cons_self))
    exact ⟨meth, c, h1, h2, h3, h4, h5, h6⟩
  · intro p e s m args below meth c s₁ B hml hP _
    have hh0 : s₁.heap = s.heap := by rw [B.state]; rfl
    obtain ⟨t, a1, o, b1, b2, b3⟩ := body p e s m args below meth c s₁ B hml hP s₁ hh0 (Stand.of_body B)
    exact ⟨t, o, a1, b1, b2, ⟨b3.1, b3.2⟩⟩
section RB
variable {p : Program} {l : Launch} {e : Env} {R : Room} {s : State} {m : MethodId} {args : Array Value} {below : List Frame} {meth : Method} {c : Code} {H : Heap} {locs : List Loc} {cells slots : Nat} {Q : State → Prop}
variable {cc : ByteArray} {pc : Nat} {ls : Array Slot} {rest : List Value} {g : gG} {mm : gM} {own : String} {index : Nat}
theorem lv_nm {x y : Int32} (h : x = y) (k : W p l e R s m args below meth c H locs cells slots Q (F0 m pc ls (.int x :: rest))) : W p l e R s m args below meth c H locs cells slots Q (F0 m pc ls (.int y :: rest)) := h ▸ k
theorem r_irem {x y : Int32} (hexec : p.tables.exec = Jvm.exec) (hb : c.code = cc) (hdg : decode cc pc = .ok (.irem, 1)) (hne : ¬ y = 0) (k : W p l e R s m args below meth c H locs cells slots Q (F0 m (pc + 1) ls (.int (irm x y) :: rest))) : W p l e R s m args below meth c H locs cells slots Q (F0 m pc ls (.int y :: .int x :: rest)) := lv_irem hexec hb hdg hne k
theorem r_mx {x y : Int32} {nL : Nat} (X : Cx g p s m args c meth own cc) (hml : c.maxLocals = nL) (hls : ls.size = nL) (hlink : Cond.methodLink own index Lib.Math.max.name ∈ ALLW) (hw : Cond.static Lib.Math.max.name ∈ ALLW ∧ Cond.initialized "java/lang/Math" ∈ ALLW ∧ Cond.code Lib.Math.max.name Lib.Math.max.code 2 (some .int) ∈ ALLW) (hframes : 1 ≤ R.frames) (hlocals : (rest.map fun v => v.category).sum + 13 ≤ R.locals) (hc : cells ≤ R.cells) (hs : slots ≤ R.slots) (hdg : decode cc pc = .ok (.invokestatic index, 3)) (kk : W p l e R s m args below meth c H locs cells slots Q (F0 m (pc + 3) ls (.int (mx x y) :: rest))) : W p l e R s m args below meth c H locs cells slots Q (F0 m pc ls (.int y :: .int x :: rest)) := va_mmax X.1 X.2.1 (hml.trans hls.symm) X.2.2.1 (X.2.2.2.1 _ hlink) (X.2.2.2.1 _ hw.1) (X.2.2.2.1 _ hw.2.1) (X.2.2.2.1 _ hw.2.2) hframes hlocals hc hs hdg kk
theorem kw_mx : Cond.static Lib.Math.max.name ∈ ALLW ∧ Cond.initialized "java/lang/Math" ∈ ALLW ∧ Cond.code Lib.Math.max.name Lib.Math.max.code 2 (some .int) ∈ ALLW := ⟨ALLW_in (k := 327) (by decide +kernel) (by decide +kernel), ALLW_in (k := 80) (by decide +kernel) (by decide +kernel), ALLW_in (k := 328) (by decide +kernel) (by decide +kernel)⟩
theorem r_mn {x y : Int32} {nL : Nat} (X : Cx g p s m args c meth own cc) (hml : c.maxLocals = nL) (hls : ls.size = nL) (hlink : Cond.methodLink own index Lib.Math.min.name ∈ ALLW) (hw : Cond.static Lib.Math.min.name ∈ ALLW ∧ Cond.initialized "java/lang/Math" ∈ ALLW ∧ Cond.code Lib.Math.min.name Lib.Math.min.code 2 (some .int) ∈ ALLW) (hframes : 1 ≤ R.frames) (hlocals : (rest.map fun v => v.category).sum + 13 ≤ R.locals) (hc : cells ≤ R.cells) (hs : slots ≤ R.slots) (hdg : decode cc pc = .ok (.invokestatic index, 3)) (kk : W p l e R s m args below meth c H locs cells slots Q (F0 m (pc + 3) ls (.int (mn x y) :: rest))) : W p l e R s m args below meth c H locs cells slots Q (F0 m pc ls (.int y :: .int x :: rest)) := va_mmin X.1 X.2.1 (hml.trans hls.symm) X.2.2.1 (X.2.2.2.1 _ hlink) (X.2.2.2.1 _ hw.1) (X.2.2.2.1 _ hw.2.1) (X.2.2.2.1 _ hw.2.2) hframes hlocals hc hs hdg kk
theorem kw_mn : Cond.static Lib.Math.min.name ∈ ALLW ∧ Cond.initialized "java/lang/Math" ∈ ALLW ∧ Cond.code Lib.Math.min.name Lib.Math.min.code 2 (some .int) ∈ ALLW := ⟨ALLW_in (k := 330) (by decide +kernel) (by decide +kernel), ALLW_in (k := 80) (by decide +kernel) (by decide +kernel), ALLW_in (k := 331) (by decide +kernel) (by decide +kernel)⟩
theorem kw_copy : Cond.native arraycopyName ∈ ALLW ∧ Cond.static arraycopyName ∈ ALLW ∧ Cond.initialized "java/lang/System" ∈ ALLW := ⟨ALLW_in (k := 618) (by decide +kernel) (by decide +kernel), ALLW_in (k := 617) (by decide +kernel) (by decide +kernel), ALLW_in (k := 79) (by decide +kernel) (by decide +kernel)⟩
theorem r_d2l {b : UInt64} {nL : Nat} (X : Cx g p s m args c meth own cc) (hml : c.maxLocals = nL) (hls : ls.size = nL) (hlink : Cond.methodLink own index ⟨"java/lang/Double", "doubleToRawLongBits", "(D)J"⟩ ∈ ALLW) (hw : Cond.native ⟨"java/lang/Double", "doubleToRawLongBits", "(D)J"⟩ ∈ ALLW ∧ Cond.static ⟨"java/lang/Double", "doubleToRawLongBits", "(D)J"⟩ ∈ ALLW ∧ Cond.initialized "java/lang/Double" ∈ ALLW) (hframes : 1 ≤ R.frames) (hlocals : (rest.map fun v => v.category).sum + 15 ≤ R.locals) (hdg : decode cc pc = .ok (.invokestatic index, 3)) (kk : W p l e R s m args below meth c H locs cells slots Q (F0 m (pc + 3) ls (.long (rawL b) :: rest))) : W p l e R s m args below meth c H locs cells slots Q (F0 m pc ls (.double b :: rest)) := vn_d2l X.1 X.2.1 (hml.trans hls.symm) X.2.2.1 (X.2.2.2.1 _ hlink) (X.2.2.2.1 _ hw.1) (X.2.2.2.1 _ hw.2.1) (X.2.2.2.1 _ hw.2.2) hframes hlocals hdg kk
theorem kw_d2l : Cond.native ⟨"java/lang/Double", "doubleToRawLongBits", "(D)J"⟩ ∈ ALLW ∧ Cond.static ⟨"java/lang/Double", "doubleToRawLongBits", "(D)J"⟩ ∈ ALLW ∧ Cond.initialized "java/lang/Double" ∈ ALLW := ⟨ALLW_in (k := 1317) (by decide +kernel) (by decide +kernel), ALLW_in (k := 1316) (by decide +kernel) (by decide +kernel), ALLW_in (k := 88) (by decide +kernel) (by decide +kernel)⟩
theorem r_f2i {b : UInt32} {nL : Nat} (X : Cx g p s m args c meth own cc) (hml : c.maxLocals = nL) (hls : ls.size = nL) (hlink : Cond.methodLink own index ⟨"java/lang/Float", "floatToRawIntBits", "(F)I"⟩ ∈ ALLW) (hw : Cond.native ⟨"java/lang/Float", "floatToRawIntBits", "(F)I"⟩ ∈ ALLW ∧ Cond.static ⟨"java/lang/Float", "floatToRawIntBits", "(F)I"⟩ ∈ ALLW ∧ Cond.initialized "java/lang/Float" ∈ ALLW) (hframes : 1 ≤ R.frames) (hlocals : (rest.map fun v => v.category).sum + 15 ≤ R.locals) (hdg : decode cc pc = .ok (.invokestatic index, 3)) (kk : W p l e R s m args below meth c H locs cells slots Q (F0 m (pc + 3) ls (.int (rawI b) :: rest))) : W p l e R s m args below meth c H locs cells slots Q (F0 m pc ls (.float b :: rest)) := vn_f2i X.1 X.2.1 (hml.trans hls.symm) X.2.2.1 (X.2.2.2.1 _ hlink) (X.2.2.2.1 _ hw.1) (X.2.2.2.1 _ hw.2.1) (X.2.2.2.1 _ hw.2.2) hframes hlocals hdg kk
theorem kw_f2i : Cond.native ⟨"java/lang/Float", "floatToRawIntBits", "(F)I"⟩ ∈ ALLW ∧ Cond.static ⟨"java/lang/Float", "floatToRawIntBits", "(F)I"⟩ ∈ ALLW ∧ Cond.initialized "java/lang/Float" ∈ ALLW := ⟨ALLW_in (k := 1327) (by decide +kernel) (by decide +kernel), ALLW_in (k := 1326) (by decide +kernel) (by decide +kernel), ALLW_in (k := 89) (by decide +kernel) (by decide +kernel)⟩
theorem r_gs0 (X : Cx g p s m args c meth own cc) (h : Wd g mm s H locs) (hlink : Cond.fieldLink own index "LitDigits" "SIGN_MASKS" "[I" ∈ ALLW) (hdg : decode cc pc = .ok (.getstatic index, 3)) (kk : W p l e R s m args below meth c H locs cells slots Q (F0 m (pc + 3) ls (.ref (sx g 0) :: rest))) : W p l e R s m args below meth c H locs cells slots Q (F0 m pc ls rest) := va_gets X.1 X.2.1 X.2.2.2.2.2.2.1.2.1.1.1 h.2 X.2.2.1 (X.2.2.2.1 _ hlink) (fun x hx => hx) hdg kk
theorem r_gs0N {host : String} (X : Cx g p s m args c meth own cc) (h : Wd g mm s H locs) (hlink : va_Nw (.fieldLinkNest own index "LitDigits" "SIGN_MASKS" "[I" host) s) (hdg : decode cc pc = .ok (.getstatic index, 3)) (kk : W p l e R s m args below meth c H locs cells slots Q (F0 m (pc + 3) ls (.ref (sx g 0) :: rest))) : W p l e R s m args below meth c H locs cells slots Q (F0 m pc ls rest) := va_getsN X.1 X.2.1 X.2.2.2.2.2.2.1.2.1.1.1 h.2 X.2.2.1 (va_Nw.use rfl hlink) (fun x hx => hx) hdg kk
theorem r_ti0 {i : Int32} (X : Cx g p s m args c meth own cc) (h : Wd g mm s H locs) (hi : vp_in i 18) (hdg : decode cc pc = .ok (.iaload, 1)) (kk : W p l e R s m args below meth c H locs cells slots Q (F0 m (pc + 1) ls (.int (tS0 i.toNatClampNeg) :: rest))) : W p l e R s m args below meth c H locs cells slots Q (F0 m pc ls (.int i :: .ref (sx g 0) :: rest)) := va_ti X.1 X.2.1 X.2.2.2.2.2.2.1.2.1.1.2 h.2 hi rfl hdg kk
theorem r_gs1 (X : Cx g p s m args c meth own cc) (h : Wd g mm s H locs) (hlink : Cond.fieldLink own index "LitDigits" "FIRST_SETTINGS" "[I" ∈ ALLW) (hdg : decode cc pc = .ok (.getstatic index, 3)) (kk : W p l e R s m args below meth c H locs cells slots Q (F0 m (pc + 3) ls (.ref (sx g 1) :: rest))) : W p l e R s m args below meth c H locs cells slots Q (F0 m pc ls rest) := va_gets X.1 X.2.1 X.2.2.2.2.2.2.1.2.1.2.1.1 h.2 X.2.2.1 (X.2.2.2.1 _ hlink) (fun x hx => hx) hdg kk
theorem r_gs1N {host : String} (X : Cx g p s m args c meth own cc) (h : Wd g mm s H locs) (hlink : va_Nw (.fieldLinkNest own index "LitDigits" "FIRST_SETTINGS" "[I" host) s) (hdg : decode cc pc = .ok (.getstatic index, 3)) (kk : W p l e R s m args below meth c H locs cells slots Q (F0 m (pc + 3) ls (.ref (sx g 1) :: rest))) : W p l e R s m args below meth c H locs cells slots Q (F0 m pc ls rest) := va_getsN X.1 X.2.1 X.2.2.2.2.2.2.1.2.1.2.1.1 h.2 X.2.2.1 (va_Nw.use rfl hlink) (fun x hx => hx) hdg kk
theorem r_ti1 {i : Int32} (X : Cx g p s m args c meth own cc) (h : Wd g mm s H locs) (hi : vp_in i 4) (hdg : decode cc pc = .ok (.iaload, 1)) (kk : W p l e R s m args below meth c H locs cells slots Q (F0 m (pc + 1) ls (.int (tS1 i.toNatClampNeg) :: rest))) : W p l e R s m args below meth c H locs cells slots Q (F0 m pc ls (.int i :: .ref (sx g 1) :: rest)) := va_ti X.1 X.2.1 X.2.2.2.2.2.2.1.2.1.2.1.2 h.2 hi rfl hdg kk
theorem r_gs2 (X : Cx g p s m args c meth own cc) (h : Wd g mm s H locs) (hlink : Cond.fieldLink own index "LitDigits" "LEAST_SETTINGS" "[I" ∈ ALLW) (hdg : decode cc pc = .ok (.getstatic index, 3)) (kk : W p l e R s m args below meth c H locs cells slots Q (F0 m (pc + 3) ls (.ref (sx g 2) :: rest))) : W p l e R s m args below meth c H locs cells slots Q (F0 m pc ls rest) := va_gets X.1 X.2.1 X.2.2.2.2.2.2.1.2.1.2.2.1.1 h.2 X.2.2.1 (X.2.2.2.1 _ hlink) (fun x hx => hx) hdg kk
theorem r_gs2N {host : String} (X : Cx g p s m args c meth own cc) (h : Wd g mm s H locs) (hlink : va_Nw (.fieldLinkNest own index "LitDigits" "LEAST_SETTINGS" "[I" host) s) (hdg : decode cc pc = .ok (.getstatic index, 3)) (kk : W p l e R s m args below meth c H locs cells slots Q (F0 m (pc + 3) ls (.ref (sx g 2) :: rest))) : W p l e R s m args below meth c H locs cells slots Q (F0 m pc ls rest) := va_getsN X.1 X.2.1 X.2.2.2.2.2.2.1.2.1.2.2.1.1 h.2 X.2.2.1 (va_Nw.use rfl hlink) (fun x hx => hx) hdg kk
theorem r_ti2 {i : Int32} (X : Cx g p s m args c meth own cc) (h : Wd g mm s H locs) (hi : vp_in i 4) (hdg : decode cc pc = .ok (.iaload, 1)) (kk : W p l e R s m args below meth c H locs cells slots Q (F0 m (pc + 1) ls (.int (tS2 i.toNatClampNeg) :: rest))) : W p l e R s m args below meth c H locs cells slots Q (F0 m pc ls (.int i :: .ref (sx g 2) :: rest)) := va_ti X.1 X.2.1 X.2.2.2.2.2.2.1.2.1.2.2.1.2 h.2 hi rfl hdg kk
theorem r_gs3 (X : Cx g p s m args c meth own cc) (h : Wd g mm s H locs) (hlink : Cond.fieldLink own index "LitDigits" "MOST_SETTINGS" "[I" ∈ ALLW) (hdg : decode cc pc = .ok (.getstatic index, 3)) (kk : W p l e R s m args below meth c H locs cells slots Q (F0 m (pc + 3) ls (.ref (sx g 3) :: rest))) : W p l e R s m args below meth c H locs cells slots Q (F0 m pc ls rest) := va_gets X.1 X.2.1 X.2.2.2.2.2.2.1.2.1.2.2.2.1.1 h.2 X.2.2.1 (X.2.2.2.1 _ hlink) (fun x hx => hx) hdg kk
theorem r_gs3N {host : String} (X : Cx g p s m args c meth own cc) (h : Wd g mm s H locs) (hlink : va_Nw (.fieldLinkNest own index "LitDigits" "MOST_SETTINGS" "[I" host) s) (hdg : decode cc pc = .ok (.getstatic index, 3)) (kk : W p l e R s m args below meth c H locs cells slots Q (F0 m (pc + 3) ls (.ref (sx g 3) :: rest))) : W p l e R s m args below meth c H locs cells slots Q (F0 m pc ls rest) := va_getsN X.1 X.2.1 X.2.2.2.2.2.2.1.2.1.2.2.2.1.1 h.2 X.2.2.1 (va_Nw.use rfl hlink) (fun x hx => hx) hdg kk
theorem r_ti3 {i : Int32} (X : Cx g p s m args c meth own cc) (h : Wd g mm s H locs) (hi : vp_in i 4) (hdg : decode cc pc = .ok (.iaload, 1)) (kk : W p l e R s m args below meth c H locs cells slots Q (F0 m (pc + 1) ls (.int (tS3 i.toNatClampNeg) :: rest))) : W p l e R s m args below meth c H locs cells slots Q (F0 m pc ls (.int i :: .ref (sx g 3) :: rest)) := va_ti X.1 X.2.1 X.2.2.2.2.2.2.1.2.1.2.2.2.1.2 h.2 hi rfl hdg kk
theorem r_compact (X : Cx g p s m args c meth own cc) (h : Wd g mm s H locs) (hlink : Cond.fieldLink own index "java/lang/String" "COMPACT_STRINGS" "Z" ∈ ALLW) (hdg : decode cc pc = .ok (.getstatic index, 3)) (kk : W p l e R s m args below meth c H locs cells slots Q (F0 m (pc + 3) ls (.int 1 :: rest))) : W p l e R s m args below meth c H locs cells slots Q (F0 m pc ls rest) := va_gets X.1 X.2.1 X.2.2.2.2.2.2.1.2.1.2.2.2.2 h.2 X.2.2.1 (X.2.2.2.1 _ hlink) (fun x hx => hx) hdg kk
theorem r_fmt (X : Cx g p s m args c meth own cc) (h : Wd g mm s H locs) (hlink : Cond.fieldLink own index "jdk/internal/util/Preconditions" "SIOOBE_FORMATTER" "Ljava/util/function/BiFunction;" ∈ ALLW) (hdg : decode cc pc = .ok (.getstatic index, 3)) (kk : ∀ w : Option Nat, W p l e R s m args below meth c H locs cells slots Q (F0 m (pc + 3) ls (va_rf w :: rest))) : W p l e R s m args below meth c H locs cells slots Q (F0 m pc ls rest) := by
  rcases X.2.2.2.2.2.2.1.2.2.2.2.2.1.2.2 with z | ⟨t, z⟩
  · exact va_gets X.1 X.2.1 z h.2 X.2.2.1 (X.2.2.2.1 _ hlink) (fun x hx => hx) hdg (kk none)
  · exact va_gets X.1 X.2.1 z h.2 X.2.2.1 (X.2.2.2.1 _ hlink) (fun x hx => hx) hdg (kk (some t))
theorem Fx_text {q : Nat} (X : Cx g p s m args c meth own cc) (hq : q = 4 ∨ q = 6) : vk_S 1 [18] [tCodes] (fun _ => sx g q) (fun _ => sx g (q + 1)) (gA g) s s.heap := by
  rcases hq with rfl | rfl
  · exact X.2.2.2.2.2.2.1.2.2.2.2.1.1
  · exact X.2.2.2.2.2.2.1.2.2.2.2.1.2
theorem r_recS {q : Nat} (X : Cx g p s m args c meth own cc) (h : Wd g mm s H locs) (hq : q = 4 ∨ q = 6) : ∃ cell : Cell, H[sx g q]? = some cell ∧ cell.vm.isStatics = false ∧ s.vm.findClass "java/lang/String" = some cell.cls := vk_recv (Fx_text X hq) (i := 0) (by decide) h.2
theorem r_coder {q : Nat} (X : Cx g p s m args c meth own cc) (h : Wd g mm s H locs) (hq : q = 4 ∨ q = 6) (hlink : Cond.fieldLink own index "java/lang/String" "coder" "B" ∈ ALLW) (hdg : decode cc pc = .ok (.getfield index, 3)) (kk : W p l e R s m args below meth c H locs cells slots Q (F0 m (pc + 3) ls (.int 0 :: rest))) : W p l e R s m args below meth c H locs cells slots Q (F0 m pc ls (.ref (sx g q) :: rest)) := vk_getf X.1 X.2.1 ((Fx_text X hq).1 0 (by decide)).2.1 h.2 X.2.2.1 (X.2.2.2.1 _ hlink) (fun x hx => hx) hdg kk
theorem r_value {q : Nat} (X : Cx g p s m args c meth own cc) (h : Wd g mm s H locs) (hq : q = 4 ∨ q = 6) (hlink : Cond.fieldLink own index "java/lang/String" "value" "[B" ∈ ALLW) (hdg : decode cc pc = .ok (.getfield index, 3)) (kk : W p l e R s m args below meth c H locs cells slots Q (F0 m (pc + 3) ls (.ref (sx g (q + 1)) :: rest))) : W p l e R s m args below meth c H locs cells slots Q (F0 m pc ls (.ref (sx g q) :: rest)) := vk_getf X.1 X.2.1 ((Fx_text X hq).1 0 (by decide)).2.2.1 h.2 X.2.2.1 (X.2.2.2.1 _ hlink) (fun x hx => hx) hdg kk
theorem r_blen {q : Nat} (X : Cx g p s m args c meth own cc) (h : Wd g mm s H locs) (hq : q = 4 ∨ q = 6) (hdg : decode cc pc = .ok (.arraylength, 1)) (kk : W p l e R s m args below meth c H locs cells slots Q (F0 m (pc + 1) ls (.int 18 :: rest))) : W p l e R s m args below meth c H locs cells slots Q (F0 m pc ls (.ref (sx g (q + 1)) :: rest)) := va_tlen X.1 X.2.1 ((Fx_text X hq).1 0 (by decide)).2.2.2 h.2 rfl hdg kk
theorem r_bytes {q : Nat} {i : Int32} (X : Cx g p s m args c meth own cc) (h : Wd g mm s H locs) (hq : q = 4 ∨ q = 6) (hi : vp_in i 18) (hdg : decode cc pc = .ok (.baload, 1)) (kk : W p l e R s m args below meth c H locs cells slots Q (F0 m (pc + 1) ls (.int (tCodes.getD i.toNatClampNeg 0) :: rest))) : W p l e R s m args below meth c H locs cells slots Q (F0 m pc ls (.int i :: .ref (sx g (q + 1)) :: rest)) := va_tb X.1 X.2.1 ((Fx_text X hq).1 0 (by decide)).2.2.2 h.2 hi rfl hdg kk
theorem r_ldcS {tx : String} (X : Cx g p s m args c meth own cc) (q : Nat) (hR : vk_R own index tx q s) (hdg : decode cc pc = .ok (.ldc index, 2)) (kk : W p l e R s m args below meth c H locs cells slots Q (F0 m (pc + 2) ls (.ref q :: rest))) : W p l e R s m args below meth c H locs cells slots Q (F0 m pc ls rest) := va_ldcS X.1 X.2.1 X.2.2.1 hR hdg kk
theorem r_ldcSw {tx : String} (X : Cx g p s m args c meth own cc) (q : Nat) (hR : vk_R own index tx q s) (hdg : decode cc pc = .ok (.ldc_w index, 3)) (kk : W p l e R s m args below meth c H locs cells slots Q (F0 m (pc + 3) ls (.ref q :: rest))) : W p l e R s m args below meth c H locs cells slots Q (F0 m pc ls rest) := by
  intro T hT Y
  obtain ⟨t, a1, b1⟩ := kk T hT Y
  exact ⟨t, Y.ldcStringW X.1 X.2.2.1 (text := tx) (a := q) hR.1 hR.2 (g := F0 m pc ls rest) rfl (by rw [X.2.1]; exact hdg) t a1, b1⟩
theorem r_aald_18 {i : Int32} (X : Cx g p s m args c meth own cc) (h : Wd g mm s H locs) (hi : vp_in i 2) (hdg : decode cc pc = .ok (.aaload, 1)) (kk : W p l e R s m args below meth c H locs cells slots Q (F0 m (pc + 1) ls (.ref (ad g 0 (2 + i.toNatClampNeg)) :: rest))) : W p l e R s m args below meth c H locs cells slots Q (F0 m pc ls (.int i :: .ref (ad g 18 0) :: rest)) := by
  obtain ⟨q0, hq⟩ := mem_allc (c := 18) (t := 0) (by decide) (by decide)
  exact va_aldq X.1 X.2.1 X.2.2.2.2.2.2.1.1 h.1 q0 4 (wl_at hq) rfl hi hdg kk
theorem r_aald_20 {i : Int32} (X : Cx g p s m args c meth own cc) (h : Wd g mm s H locs) (hi : vp_in i 6) (hdg : decode cc pc = .ok (.aaload, 1)) (kk : W p l e R s m args below meth c H locs cells slots Q (F0 m (pc + 1) ls (.ref (ad g 0 (4 + i.toNatClampNeg)) :: rest))) : W p l e R s m args below meth c H locs cells slots Q (F0 m pc ls (.int i :: .ref (ad g 20 0) :: rest)) := by
  obtain ⟨q0, hq⟩ := mem_allc (c := 20) (t := 0) (by decide) (by decide)
  exact va_aldq X.1 X.2.1 X.2.2.2.2.2.2.1.1 h.1 q0 4 (wl_at hq) rfl hi hdg kk
theorem gf_0_0 {t : Nat} (X : Cx g p s m args c meth own cc) (h : Wd g mm s H locs) (ht : t < 10) (hlink : Cond.fieldLink own index "LitDigits$State" "signs" "[I" ∈ ALLW) (hdg : decode cc pc = .ok (.getfield index, 3)) (kk : W p l e R s m args below meth c H locs cells slots Q (F0 m (pc + 3) ls (.ref (ad g 1 t) :: rest))) : W p l e R s m args below meth c H locs cells slots Q (F0 m pc ls (.ref (ad g 0 t) :: rest)) := r_get X h 0 t (by decide) ht rfl rfl inA_2 0 (by decide) hlink rfl rfl hdg kk
theorem gf_0_1 {t : Nat} (X : Cx g p s m args c meth own cc) (h : Wd g mm s H locs) (ht : t < 10) (hlink : Cond.fieldLink own index "LitDigits$State" "burnt" "[I" ∈ ALLW) (hdg : decode cc pc = .ok (.getfield index, 3)) (kk : W p l e R s m args below meth c H locs cells slots Q (F0 m (pc + 3) ls (.ref (ad g 2 t) :: rest))) : W p l e R s m args below meth c H locs cells slots Q (F0 m pc ls (.ref (ad g 0 t) :: rest)) := r_get X h 0 t (by decide) ht rfl rfl inA_2 1 (by decide) hlink rfl rfl hdg kk
theorem gf_0_2 {t : Nat} (X : Cx g p s m args c meth own cc) (h : Wd g mm s H locs) (ht : t < 10) (hlink : Cond.fieldLink own index "LitDigits$State" "times" "[I" ∈ ALLW) (hdg : decode cc pc = .ok (.getfield index, 3)) (kk : W p l e R s m args below meth c H locs cells slots Q (F0 m (pc + 3) ls (.ref (ad g 3 t) :: rest))) : W p l e R s m args below meth c H locs cells slots Q (F0 m pc ls (.ref (ad g 0 t) :: rest)) := r_get X h 0 t (by decide) ht rfl rfl inA_2 2 (by decide) hlink rfl rfl hdg kk
theorem gf_0_3 {t : Nat} (X : Cx g p s m args c meth own cc) (h : Wd g mm s H locs) (ht : t < 10) (hlink : Cond.fieldLink own index "LitDigits$State" "glows" "[I" ∈ ALLW) (hdg : decode cc pc = .ok (.getfield index, 3)) (kk : W p l e R s m args below meth c H locs cells slots Q (F0 m (pc + 3) ls (.ref (ad g 4 t) :: rest))) : W p l e R s m args below meth c H locs cells slots Q (F0 m pc ls (.ref (ad g 0 t) :: rest)) := r_get X h 0 t (by decide) ht rfl rfl inA_2 3 (by decide) hlink rfl rfl hdg kk
theorem gf_0_4 {t : Nat} (X : Cx g p s m args c meth own cc) (h : Wd g mm s H locs) (ht : t < 10) (hlink : Cond.fieldLink own index "LitDigits$State" "settings" "[I" ∈ ALLW) (hdg : decode cc pc = .ok (.getfield index, 3)) (kk : W p l e R s m args below meth c H locs cells slots Q (F0 m (pc + 3) ls (.ref (ad g 5 t) :: rest))) : W p l e R s m args below meth c H locs cells slots Q (F0 m pc ls (.ref (ad g 0 t) :: rest)) := r_get X h 0 t (by decide) ht rfl rfl inA_2 4 (by decide) hlink rfl rfl hdg kk
theorem gf_0_5 {t : Nat} (X : Cx g p s m args c meth own cc) (h : Wd g mm s H locs) (ht : t < 10) (hlink : Cond.fieldLink own index "LitDigits$State" "dots" "I" ∈ ALLW) (hdg : decode cc pc = .ok (.getfield index, 3)) (kk : W p l e R s m args below meth c H locs cells slots Q (F0 m (pc + 3) ls (.int (gi mm 0 t 5) :: rest))) : W p l e R s m args below meth c H locs cells slots Q (F0 m pc ls (.ref (ad g 0 t) :: rest)) := r_get X h 0 t (by decide) ht rfl rfl inA_2 5 (by decide) hlink rfl rfl hdg kk
theorem pf_0_5 {t : Nat} {x : Int32} (X : Cx g p s m args c meth own cc) (h : Wd g mm s H locs) (ht : t < 10) (hlink : Cond.fieldLink own index "LitDigits$State" "dots" "I" ∈ ALLW) (hdg : decode cc pc = .ok (.putfield index, 3)) (kk : ∀ (H1 : Heap) (locs1 : List Loc), Wd g (si mm 0 t 5 x) s H1 locs1 → W p l e R s m args below meth c H1 locs1 cells slots Q (F0 m (pc + 3) ls rest)) : W p l e R s m args below meth c H locs cells slots Q (F0 m pc ls (.int x :: .ref (ad g 0 t) :: rest)) := r_put X h 0 t (by decide) ht tyX2 tyX2_ok nmX2 rfl rfl inA_2 5 (by decide) hlink rfl rfl (ty := .int) (by decide +kernel) rfl rfl (Nat.le_of_ble_eq_true rfl) (m1 := si mm 0 t 5 x) (by simp [cel, gi_si, gl_si, gi_sl, gl_sl]) si_off hdg kk
theorem gf_0_6 {t : Nat} (X : Cx g p s m args c meth own cc) (h : Wd g mm s H locs) (ht : t < 10) (hlink : Cond.fieldLink own index "LitDigits$State" "cutLines" "I" ∈ ALLW) (hdg : decode cc pc = .ok (.getfield index, 3)) (kk : W p l e R s m args below meth c H locs cells slots Q (F0 m (pc + 3) ls (.int (gi mm 0 t 6) :: rest))) : W p l e R s m args below meth c H locs cells slots Q (F0 m pc ls (.ref (ad g 0 t) :: rest)) := r_get X h 0 t (by decide) ht rfl rfl inA_2 6 (by decide) hlink rfl rfl hdg kk
theorem pf_0_6 {t : Nat} {x : Int32} (X : Cx g p s m args c meth own cc) (h : Wd g mm s H locs) (ht : t < 10) (hlink : Cond.fieldLink own index "LitDigits$State" "cutLines" "I" ∈ ALLW) (hdg : decode cc pc = .ok (.putfield index, 3)) (kk : ∀ (H1 : Heap) (locs1 : List Loc), Wd g (si mm 0 t 6 x) s H1 locs1 → W p l e R s m args below meth c H1 locs1 cells slots Q (F0 m (pc + 3) ls rest)) : W p l e R s m args below meth c H locs cells slots Q (F0 m pc ls (.int x :: .ref (ad g 0 t) :: rest)) := r_put X h 0 t (by decide) ht tyX2 tyX2_ok nmX2 rfl rfl inA_2 6 (by decide) hlink rfl rfl (ty := .int) (by decide +kernel) rfl rfl (Nat.le_of_ble_eq_true rfl) (m1 := si mm 0 t 6 x) (by simp [cel, gi_si, gl_si, gi_sl, gl_sl]) si_off hdg kk
theorem gf_0_7 {t : Nat} (X : Cx g p s m args c meth own cc) (h : Wd g mm s H locs) (ht : t < 10) (hlink : Cond.fieldLink own index "LitDigits$State" "ticks" "I" ∈ ALLW) (hdg : decode cc pc = .ok (.getfield index, 3)) (kk : W p l e R s m args below meth c H locs cells slots Q (F0 m (pc + 3) ls (.int (gi mm 0 t 7) :: rest))) : W p l e R s m args below meth c H locs cells slots Q (F0 m pc ls (.ref (ad g 0 t) :: rest)) := r_get X h 0 t (by decide) ht rfl rfl inA_2 7 (by decide) hlink rfl rfl hdg kk
theorem pf_0_7 {t : Nat} {x : Int32} (X : Cx g p s m args c meth own cc) (h : Wd g mm s H locs) (ht : t < 10) (hlink : Cond.fieldLink own index "LitDigits$State" "ticks" "I" ∈ ALLW) (hdg : decode cc pc = .ok (.putfield index, 3)) (kk : ∀ (H1 : Heap) (locs1 : List Loc), Wd g (si mm 0 t 7 x) s H1 locs1 → W p l e R s m args below meth c H1 locs1 cells slots Q (F0 m (pc + 3) ls rest)) : W p l e R s m args below meth c H locs cells slots Q (F0 m pc ls (.int x :: .ref (ad g 0 t) :: rest)) := r_put X h 0 t (by decide) ht tyX2 tyX2_ok nmX2 rfl rfl inA_2 7 (by decide) hlink rfl rfl (ty := .int) (by decide +kernel) rfl rfl (Nat.le_of_ble_eq_true rfl) (m1 := si mm 0 t 7 x) (by simp [cel, gi_si, gl_si, gi_sl, gl_sl]) si_off hdg kk
theorem gf_0_8 {t : Nat} (X : Cx g p s m args c meth own cc) (h : Wd g mm s H locs) (ht : t < 10) (hlink : Cond.fieldLink own index "LitDigits$State" "position" "I" ∈ ALLW) (hdg : decode cc pc = .ok (.getfield index, 3)) (kk : W p l e R s m args below meth c H locs cells slots Q (F0 m (pc + 3) ls (.int (gi mm 0 t 8) :: rest))) : W p l e R s m args below meth c H locs cells slots Q (F0 m pc ls (.ref (ad g 0 t) :: rest)) := r_get X h 0 t (by decide) ht rfl rfl inA_2 8 (by decide) hlink rfl rfl hdg kk
theorem pf_0_8 {t : Nat} {x : Int32} (X : Cx g p s m args c meth own cc) (h : Wd g mm s H locs) (ht : t < 10) (hlink : Cond.fieldLink own index "LitDigits$State" "position" "I" ∈ ALLW) (hdg : decode cc pc = .ok (.putfield index, 3)) (kk : ∀ (H1 : Heap) (locs1 : List Loc), Wd g (si mm 0 t 8 x) s H1 locs1 → W p l e R s m args below meth c H1 locs1 cells slots Q (F0 m (pc + 3) ls rest)) : W p l e R s m args below meth c H locs cells slots Q (F0 m pc ls (.int x :: .ref (ad g 0 t) :: rest)) := r_put X h 0 t (by decide) ht tyX2 tyX2_ok nmX2 rfl rfl inA_2 8 (by decide) hlink rfl rfl (ty := .int) (by decide +kernel) rfl rfl (Nat.le_of_ble_eq_true rfl) (m1 := si mm 0 t 8 x) (by simp [cel, gi_si, gl_si, gi_sl, gl_sl]) si_off hdg kk
theorem gf_0_9 {t : Nat} (X : Cx g p s m args c meth own cc) (h : Wd g mm s H locs) (ht : t < 10) (hlink : Cond.fieldLink own index "LitDigits$State" "rounds" "I" ∈ ALLW) (hdg : decode cc pc = .ok (.getfield index, 3)) (kk : W p l e R s m args below meth c H locs cells slots Q (F0 m (pc + 3) ls (.int (gi mm 0 t 9) :: rest))) : W p l e R s m args below meth c H locs cells slots Q (F0 m pc ls (.ref (ad g 0 t) :: rest)) := r_get X h 0 t (by decide) ht rfl rfl inA_2 9 (by decide) hlink rfl rfl hdg kk
theorem pf_0_9 {t : Nat} {x : Int32} (X : Cx g p s m args c meth own cc) (h : Wd g mm s H locs) (ht : t < 10) (hlink : Cond.fieldLink own index "LitDigits$State" "rounds" "I" ∈ ALLW) (hdg : decode cc pc = .ok (.putfield index, 3)) (kk : ∀ (H1 : Heap) (locs1 : List Loc), Wd g (si mm 0 t 9 x) s H1 locs1 → W p l e R s m args below meth c H1 locs1 cells slots Q (F0 m (pc + 3) ls rest)) : W p l e R s m args below meth c H locs cells slots Q (F0 m pc ls (.int x :: .ref (ad g 0 t) :: rest)) := r_put X h 0 t (by decide) ht tyX2 tyX2_ok nmX2 rfl rfl inA_2 9 (by decide) hlink rfl rfl (ty := .int) (by decide +kernel) rfl rfl (Nat.le_of_ble_eq_true rfl) (m1 := si mm 0 t 9 x) (by simp [cel, gi_si, gl_si, gi_sl, gl_sl]) si_off hdg kk
theorem gf_6_0 {t : Nat} (X : Cx g p s m args c meth own cc) (h : Wd g mm s H locs) (ht : t < 2) (hlink : Cond.fieldLink own index "LitDigits$Eye" "state" "LLitDigits$State;" ∈ ALLW) (hdg : decode cc pc = .ok (.getfield index, 3)) (kk : W p l e R s m args below meth c H locs cells slots Q (F0 m (pc + 3) ls (.ref (ad g 0 t) :: rest))) : W p l e R s m args below meth c H locs cells slots Q (F0 m pc ls (.ref (ad g 6 t) :: rest)) := r_get X h 6 t (by decide) ht rfl rfl inA_1 0 (by decide) hlink rfl rfl hdg kk
theorem gf_6_1 {t : Nat} (X : Cx g p s m args c meth own cc) (h : Wd g mm s H locs) (ht : t < 2) (hlink : Cond.fieldLink own index "LitDigits$Eye" "brightness" "[I" ∈ ALLW) (hdg : decode cc pc = .ok (.getfield index, 3)) (kk : W p l e R s m args below meth c H locs cells slots Q (F0 m (pc + 3) ls (.ref (ad g 7 t) :: rest))) : W p l e R s m args below meth c H locs cells slots Q (F0 m pc ls (.ref (ad g 6 t) :: rest)) := r_get X h 6 t (by decide) ht rfl rfl inA_1 1 (by decide) hlink rfl rfl hdg kk
theorem gf_6_2 {t : Nat} (X : Cx g p s m args c meth own cc) (h : Wd g mm s H locs) (ht : t < 2) (hlink : Cond.fieldLink own index "LitDigits$Eye" "greatest" "[I" ∈ ALLW) (hdg : decode cc pc = .ok (.getfield index, 3)) (kk : W p l e R s m args below meth c H locs cells slots Q (F0 m (pc + 3) ls (.ref (ad g 8 t) :: rest))) : W p l e R s m args below meth c H locs cells slots Q (F0 m pc ls (.ref (ad g 6 t) :: rest)) := r_get X h 6 t (by decide) ht rfl rfl inA_1 2 (by decide) hlink rfl rfl hdg kk
theorem gf_6_3 {t : Nat} (X : Cx g p s m args c meth own cc) (h : Wd g mm s H locs) (ht : t < 2) (hlink : Cond.fieldLink own index "LitDigits$Eye" "least" "[I" ∈ ALLW) (hdg : decode cc pc = .ok (.getfield index, 3)) (kk : W p l e R s m args below meth c H locs cells slots Q (F0 m (pc + 3) ls (.ref (ad g 9 t) :: rest))) : W p l e R s m args below meth c H locs cells slots Q (F0 m pc ls (.ref (ad g 6 t) :: rest)) := r_get X h 6 t (by decide) ht rfl rfl inA_1 3 (by decide) hlink rfl rfl hdg kk
theorem gf_6_4 {t : Nat} (X : Cx g p s m args c meth own cc) (h : Wd g mm s H locs) (ht : t < 2) (hlink : Cond.fieldLink own index "LitDigits$Eye" "looked" "[Z" ∈ ALLW) (hdg : decode cc pc = .ok (.getfield index, 3)) (kk : W p l e R s m args below meth c H locs cells slots Q (F0 m (pc + 3) ls (.ref (ad g 10 t) :: rest))) : W p l e R s m args below meth c H locs cells slots Q (F0 m pc ls (.ref (ad g 6 t) :: rest)) := r_get X h 6 t (by decide) ht rfl rfl inA_1 4 (by decide) hlink rfl rfl hdg kk
theorem gf_6_5 {t : Nat} (X : Cx g p s m args c meth own cc) (h : Wd g mm s H locs) (ht : t < 2) (hlink : Cond.fieldLink own index "LitDigits$Eye" "turn" "LLitDigits$Turn;" ∈ ALLW) (hdg : decode cc pc = .ok (.getfield index, 3)) (kk : W p l e R s m args below meth c H locs cells slots Q (F0 m (pc + 3) ls (.ref (ad g 11 t) :: rest))) : W p l e R s m args below meth c H locs cells slots Q (F0 m pc ls (.ref (ad g 6 t) :: rest)) := r_get X h 6 t (by decide) ht rfl rfl inA_1 5 (by decide) hlink rfl rfl hdg kk
theorem gf_11_0 {t : Nat} (X : Cx g p s m args c meth own cc) (h : Wd g mm s H locs) (ht : t < 3) (hlink : Cond.fieldLink own index "LitDigits$Turn" "roundTicks" "I" ∈ ALLW) (hdg : decode cc pc = .ok (.getfield index, 3)) (kk : W p l e R s m args below meth c H locs cells slots Q (F0 m (pc + 3) ls (.int (gi mm 11 t 0) :: rest))) : W p l e R s m args below meth c H locs cells slots Q (F0 m pc ls (.ref (ad g 11 t) :: rest)) := r_get X h 11 t (by decide) ht rfl rfl inA_4 0 (by decide) hlink rfl rfl hdg kk
theorem pf_11_0 {t : Nat} {x : Int32} (X : Cx g p s m args c meth own cc) (h : Wd g mm s H locs) (ht : t < 3) (hlink : Cond.fieldLink own index "LitDigits$Turn" "roundTicks" "I" ∈ ALLW) (hdg : decode cc pc = .ok (.putfield index, 3)) (kk : ∀ (H1 : Heap) (locs1 : List Loc), Wd g (si mm 11 t 0 x) s H1 locs1 → W p l e R s m args below meth c H1 locs1 cells slots Q (F0 m (pc + 3) ls rest)) : W p l e R s m args below meth c H locs cells slots Q (F0 m pc ls (.int x :: .ref (ad g 11 t) :: rest)) := r_put X h 11 t (by decide) ht tyX4 tyX4_ok nmX4 rfl rfl inA_4 0 (by decide) hlink rfl rfl (ty := .int) (by decide +kernel) rfl rfl (Nat.le_of_ble_eq_true rfl) (m1 := si mm 11 t 0 x) (by simp [cel, gi_si, gl_si, gi_sl, gl_sl]) si_off hdg kk
theorem gf_11_1 {t : Nat} (X : Cx g p s m args c meth own cc) (h : Wd g mm s H locs) (ht : t < 3) (hlink : Cond.fieldLink own index "LitDigits$Turn" "begin" "I" ∈ ALLW) (hdg : decode cc pc = .ok (.getfield index, 3)) (kk : W p l e R s m args below meth c H locs cells slots Q (F0 m (pc + 3) ls (.int (gi mm 11 t 1) :: rest))) : W p l e R s m args below meth c H locs cells slots Q (F0 m pc ls (.ref (ad g 11 t) :: rest)) := r_get X h 11 t (by decide) ht rfl rfl inA_4 1 (by decide) hlink rfl rfl hdg kk
theorem pf_11_1 {t : Nat} {x : Int32} (X : Cx g p s m args c meth own cc) (h : Wd g mm s H locs) (ht : t < 3) (hlink : Cond.fieldLink own index "LitDigits$Turn" "begin" "I" ∈ ALLW) (hdg : decode cc pc = .ok (.putfield index, 3)) (kk : ∀ (H1 : Heap) (locs1 : List Loc), Wd g (si mm 11 t 1 x) s H1 locs1 → W p l e R s m args below meth c H1 locs1 cells slots Q (F0 m (pc + 3) ls rest)) : W p l e R s m args below meth c H locs cells slots Q (F0 m pc ls (.int x :: .ref (ad g 11 t) :: rest)) := r_put X h 11 t (by decide) ht tyX4 tyX4_ok nmX4 rfl rfl inA_4 1 (by decide) hlink rfl rfl (ty := .int) (by decide +kernel) rfl rfl (Nat.le_of_ble_eq_true rfl) (m1 := si mm 11 t 1 x) (by simp [cel, gi_si, gl_si, gi_sl, gl_sl]) si_off hdg kk
theorem gf_11_2 {t : Nat} (X : Cx g p s m args c meth own cc) (h : Wd g mm s H locs) (ht : t < 3) (hlink : Cond.fieldLink own index "LitDigits$Turn" "end" "I" ∈ ALLW) (hdg : decode cc pc = .ok (.getfield index, 3)) (kk : W p l e R s m args below meth c H locs cells slots Q (F0 m (pc + 3) ls (.int (gi mm 11 t 2) :: rest))) : W p l e R s m args below meth c H locs cells slots Q (F0 m pc ls (.ref (ad g 11 t) :: rest)) := r_get X h 11 t (by decide) ht rfl rfl inA_4 2 (by decide) hlink rfl rfl hdg kk
theorem pf_11_2 {t : Nat} {x : Int32} (X : Cx g p s m args c meth own cc) (h : Wd g mm s H locs) (ht : t < 3) (hlink : Cond.fieldLink own index "LitDigits$Turn" "end" "I" ∈ ALLW) (hdg : decode cc pc = .ok (.putfield index, 3)) (kk : ∀ (H1 : Heap) (locs1 : List Loc), Wd g (si mm 11 t 2 x) s H1 locs1 → W p l e R s m args below meth c H1 locs1 cells slots Q (F0 m (pc + 3) ls rest)) : W p l e R s m args below meth c H locs cells slots Q (F0 m pc ls (.int x :: .ref (ad g 11 t) :: rest)) := r_put X h 11 t (by decide) ht tyX4 tyX4_ok nmX4 rfl rfl inA_4 2 (by decide) hlink rfl rfl (ty := .int) (by decide +kernel) rfl rfl (Nat.le_of_ble_eq_true rfl) (m1 := si mm 11 t 2 x) (by simp [cel, gi_si, gl_si, gi_sl, gl_sl]) si_off hdg kk
theorem gf_11_3 {t : Nat} (X : Cx g p s m args c meth own cc) (h : Wd g mm s H locs) (ht : t < 3) (hlink : Cond.fieldLink own index "LitDigits$Turn" "works" "I" ∈ ALLW) (hdg : decode cc pc = .ok (.getfield index, 3)) (kk : W p l e R s m args below meth c H locs cells slots Q (F0 m (pc + 3) ls (.int (gi mm 11 t 3) :: rest))) : W p l e R s m args below meth c H locs cells slots Q (F0 m pc ls (.ref (ad g 11 t) :: rest)) := r_get X h 11 t (by decide) ht rfl rfl inA_4 3 (by decide) hlink rfl rfl hdg kk
theorem pf_11_3 {t : Nat} {x : Int32} (X : Cx g p s m args c meth own cc) (h : Wd g mm s H locs) (ht : t < 3) (hlink : Cond.fieldLink own index "LitDigits$Turn" "works" "I" ∈ ALLW) (hdg : decode cc pc = .ok (.putfield index, 3)) (kk : ∀ (H1 : Heap) (locs1 : List Loc), Wd g (si mm 11 t 3 x) s H1 locs1 → W p l e R s m args below meth c H1 locs1 cells slots Q (F0 m (pc + 3) ls rest)) : W p l e R s m args below meth c H locs cells slots Q (F0 m pc ls (.int x :: .ref (ad g 11 t) :: rest)) := r_put X h 11 t (by decide) ht tyX4 tyX4_ok nmX4 rfl rfl inA_4 3 (by decide) hlink rfl rfl (ty := .int) (by decide +kernel) rfl rfl (Nat.le_of_ble_eq_true rfl) (m1 := si mm 11 t 3 x) (by simp [cel, gi_si, gl_si, gi_sl, gl_sl]) si_off hdg kk
theorem gf_11_4 {t : Nat} (X : Cx g p s m args c meth own cc) (h : Wd g mm s H locs) (ht : t < 3) (hlink : Cond.fieldLink own index "LitDigits$Turn" "light" "I" ∈ ALLW) (hdg : decode cc pc = .ok (.getfield index, 3)) (kk : W p l e R s m args below meth c H locs cells slots Q (F0 m (pc + 3) ls (.int (gi mm 11 t 4) :: rest))) : W p l e R s m args below meth c H locs cells slots Q (F0 m pc ls (.ref (ad g 11 t) :: rest)) := r_get X h 11 t (by decide) ht rfl rfl inA_4 4 (by decide) hlink rfl rfl hdg kk
theorem pf_11_4 {t : Nat} {x : Int32} (X : Cx g p s m args c meth own cc) (h : Wd g mm s H locs) (ht : t < 3) (hlink : Cond.fieldLink own index "LitDigits$Turn" "light" "I" ∈ ALLW) (hdg : decode cc pc = .ok (.putfield index, 3)) (kk : ∀ (H1 : Heap) (locs1 : List Loc), Wd g (si mm 11 t 4 x) s H1 locs1 → W p l e R s m args below meth c H1 locs1 cells slots Q (F0 m (pc + 3) ls rest)) : W p l e R s m args below meth c H locs cells slots Q (F0 m pc ls (.int x :: .ref (ad g 11 t) :: rest)) := r_put X h 11 t (by decide) ht tyX4 tyX4_ok nmX4 rfl rfl inA_4 4 (by decide) hlink rfl rfl (ty := .int) (by decide +kernel) rfl rfl (Nat.le_of_ble_eq_true rfl) (m1 := si mm 11 t 4 x) (by simp [cel, gi_si, gl_si, gi_sl, gl_sl]) si_off hdg kk
theorem gf_11_5 {t : Nat} (X : Cx g p s m args c meth own cc) (h : Wd g mm s H locs) (ht : t < 3) (hlink : Cond.fieldLink own index "LitDigits$Turn" "ghosts" "I" ∈ ALLW) (hdg : decode cc pc = .ok (.getfield index, 3)) (kk : W p l e R s m args below meth c H locs cells slots Q (F0 m (pc + 3) ls (.int (gi mm 11 t 5) :: rest))) : W p l e R s m args below meth c H locs cells slots Q (F0 m pc ls (.ref (ad g 11 t) :: rest)) := r_get X h 11 t (by decide) ht rfl rfl inA_4 5 (by decide) hlink rfl rfl hdg kk
theorem pf_11_5 {t : Nat} {x : Int32} (X : Cx g p s m args c meth own cc) (h : Wd g mm s H locs) (ht : t < 3) (hlink : Cond.fieldLink own index "LitDigits$Turn" "ghosts" "I" ∈ ALLW) (hdg : decode cc pc = .ok (.putfield index, 3)) (kk : ∀ (H1 : Heap) (locs1 : List Loc), Wd g (si mm 11 t 5 x) s H1 locs1 → W p l e R s m args below meth c H1 locs1 cells slots Q (F0 m (pc + 3) ls rest)) : W p l e R s m args below meth c H locs cells slots Q (F0 m pc ls (.int x :: .ref (ad g 11 t) :: rest)) := r_put X h 11 t (by decide) ht tyX4 tyX4_ok nmX4 rfl rfl inA_4 5 (by decide) hlink rfl rfl (ty := .int) (by decide +kernel) rfl rfl (Nat.le_of_ble_eq_true rfl) (m1 := si mm 11 t 5 x) (by simp [cel, gi_si, gl_si, gi_sl, gl_sl]) si_off hdg kk
theorem gf_11_6 {t : Nat} (X : Cx g p s m args c meth own cc) (h : Wd g mm s H locs) (ht : t < 3) (hlink : Cond.fieldLink own index "LitDigits$Turn" "ghostLight" "I" ∈ ALLW) (hdg : decode cc pc = .ok (.getfield index, 3)) (kk : W p l e R s m args below meth c H locs cells slots Q (F0 m (pc + 3) ls (.int (gi mm 11 t 6) :: rest))) : W p l e R s m args below meth c H locs cells slots Q (F0 m pc ls (.ref (ad g 11 t) :: rest)) := r_get X h 11 t (by decide) ht rfl rfl inA_4 6 (by decide) hlink rfl rfl hdg kk
theorem pf_11_6 {t : Nat} {x : Int32} (X : Cx g p s m args c meth own cc) (h : Wd g mm s H locs) (ht : t < 3) (hlink : Cond.fieldLink own index "LitDigits$Turn" "ghostLight" "I" ∈ ALLW) (hdg : decode cc pc = .ok (.putfield index, 3)) (kk : ∀ (H1 : Heap) (locs1 : List Loc), Wd g (si mm 11 t 6 x) s H1 locs1 → W p l e R s m args below meth c H1 locs1 cells slots Q (F0 m (pc + 3) ls rest)) : W p l e R s m args below meth c H locs cells slots Q (F0 m pc ls (.int x :: .ref (ad g 11 t) :: rest)) := r_put X h 11 t (by decide) ht tyX4 tyX4_ok nmX4 rfl rfl inA_4 6 (by decide) hlink rfl rfl (ty := .int) (by decide +kernel) rfl rfl (Nat.le_of_ble_eq_true rfl) (m1 := si mm 11 t 6 x) (by simp [cel, gi_si, gl_si, gi_sl, gl_sl]) si_off hdg kk
theorem gf_11_7 {t : Nat} (X : Cx g p s m args c meth own cc) (h : Wd g mm s H locs) (ht : t < 3) (hlink : Cond.fieldLink own index "LitDigits$Turn" "fading" "I" ∈ ALLW) (hdg : decode cc pc = .ok (.getfield index, 3)) (kk : W p l e R s m args below meth c H locs cells slots Q (F0 m (pc + 3) ls (.int (gi mm 11 t 7) :: rest))) : W p l e R s m args below meth c H locs cells slots Q (F0 m pc ls (.ref (ad g 11 t) :: rest)) := r_get X h 11 t (by decide) ht rfl rfl inA_4 7 (by decide) hlink rfl rfl hdg kk
theorem pf_11_7 {t : Nat} {x : Int32} (X : Cx g p s m args c meth own cc) (h : Wd g mm s H locs) (ht : t < 3) (hlink : Cond.fieldLink own index "LitDigits$Turn" "fading" "I" ∈ ALLW) (hdg : decode cc pc = .ok (.putfield index, 3)) (kk : ∀ (H1 : Heap) (locs1 : List Loc), Wd g (si mm 11 t 7 x) s H1 locs1 → W p l e R s m args below meth c H1 locs1 cells slots Q (F0 m (pc + 3) ls rest)) : W p l e R s m args below meth c H locs cells slots Q (F0 m pc ls (.int x :: .ref (ad g 11 t) :: rest)) := r_put X h 11 t (by decide) ht tyX4 tyX4_ok nmX4 rfl rfl inA_4 7 (by decide) hlink rfl rfl (ty := .int) (by decide +kernel) rfl rfl (Nat.le_of_ble_eq_true rfl) (m1 := si mm 11 t 7 x) (by simp [cel, gi_si, gl_si, gi_sl, gl_sl]) si_off hdg kk
theorem gf_12_0 (X : Cx g p s m args c meth own cc) (h : Wd g mm s H locs) (_ht : (0 : Nat) < 1) (hlink : Cond.fieldLink own index "LitDigits" "eye" "LLitDigits$Eye;" ∈ ALLW) (hdg : decode cc pc = .ok (.getfield index, 3)) (kk : W p l e R s m args below meth c H locs cells slots Q (F0 m (pc + 3) ls (.ref (ad g 6 0) :: rest))) : W p l e R s m args below meth c H locs cells slots Q (F0 m pc ls (.ref (ad g 12 0) :: rest)) := r_get X h 12 0 (by decide) (by decide) rfl rfl inA_5 0 (by decide) hlink rfl rfl hdg kk
theorem gf_12_1 (X : Cx g p s m args c meth own cc) (h : Wd g mm s H locs) (_ht : (0 : Nat) < 1) (hlink : Cond.fieldLink own index "LitDigits" "now" "LLitDigits$State;" ∈ ALLW) (hdg : decode cc pc = .ok (.getfield index, 3)) (kk : W p l e R s m args below meth c H locs cells slots Q (F0 m (pc + 3) ls (.ref (ad g 0 0) :: rest))) : W p l e R s m args below meth c H locs cells slots Q (F0 m pc ls (.ref (ad g 12 0) :: rest)) := r_get X h 12 0 (by decide) (by decide) rfl rfl inA_5 1 (by decide) hlink rfl rfl hdg kk
theorem gf_12_2 (X : Cx g p s m args c meth own cc) (h : Wd g mm s H locs) (_ht : (0 : Nat) < 1) (hlink : Cond.fieldLink own index "LitDigits" "supposedEye" "LLitDigits$Eye;" ∈ ALLW) (hdg : decode cc pc = .ok (.getfield index, 3)) (kk : W p l e R s m args below meth c H locs cells slots Q (F0 m (pc + 3) ls (.ref (ad g 6 1) :: rest))) : W p l e R s m args below meth c H locs cells slots Q (F0 m pc ls (.ref (ad g 12 0) :: rest)) := r_get X h 12 0 (by decide) (by decide) rfl rfl inA_5 2 (by decide) hlink rfl rfl hdg kk
theorem gf_12_3 (X : Cx g p s m args c meth own cc) (h : Wd g mm s H locs) (_ht : (0 : Nat) < 1) (hlink : Cond.fieldLink own index "LitDigits" "balanced" "LLitDigits$Balance;" ∈ ALLW) (hdg : decode cc pc = .ok (.getfield index, 3)) (kk : W p l e R s m args below meth c H locs cells slots Q (F0 m (pc + 3) ls (.ref (ad g 13 0) :: rest))) : W p l e R s m args below meth c H locs cells slots Q (F0 m pc ls (.ref (ad g 12 0) :: rest)) := r_get X h 12 0 (by decide) (by decide) rfl rfl inA_5 3 (by decide) hlink rfl rfl hdg kk
theorem gf_12_4 (X : Cx g p s m args c meth own cc) (h : Wd g mm s H locs) (_ht : (0 : Nat) < 1) (hlink : Cond.fieldLink own index "LitDigits" "turn" "LLitDigits$Turn;" ∈ ALLW) (hdg : decode cc pc = .ok (.getfield index, 3)) (kk : W p l e R s m args below meth c H locs cells slots Q (F0 m (pc + 3) ls (.ref (ad g 11 2) :: rest))) : W p l e R s m args below meth c H locs cells slots Q (F0 m pc ls (.ref (ad g 12 0) :: rest)) := r_get X h 12 0 (by decide) (by decide) rfl rfl inA_5 4 (by decide) hlink rfl rfl hdg kk
theorem gf_12_5 (X : Cx g p s m args c meth own cc) (h : Wd g mm s H locs) (_ht : (0 : Nat) < 1) (hlink : Cond.fieldLink own index "LitDigits" "buffer" "LLitDigits$Text;" ∈ ALLW) (hdg : decode cc pc = .ok (.getfield index, 3)) (kk : W p l e R s m args below meth c H locs cells slots Q (F0 m (pc + 3) ls (.ref (ad g 16 0) :: rest))) : W p l e R s m args below meth c H locs cells slots Q (F0 m pc ls (.ref (ad g 12 0) :: rest)) := r_get X h 12 0 (by decide) (by decide) rfl rfl inA_5 5 (by decide) hlink rfl rfl hdg kk
theorem gf_12_6 (X : Cx g p s m args c meth own cc) (h : Wd g mm s H locs) (_ht : (0 : Nat) < 1) (hlink : Cond.fieldLink own index "LitDigits" "snapshots" "[LLitDigits$State;" ∈ ALLW) (hdg : decode cc pc = .ok (.getfield index, 3)) (kk : W p l e R s m args below meth c H locs cells slots Q (F0 m (pc + 3) ls (.ref (ad g 18 0) :: rest))) : W p l e R s m args below meth c H locs cells slots Q (F0 m pc ls (.ref (ad g 12 0) :: rest)) := r_get X h 12 0 (by decide) (by decide) rfl rfl inA_5 6 (by decide) hlink rfl rfl hdg kk
theorem gf_12_7 (X : Cx g p s m args c meth own cc) (h : Wd g mm s H locs) (_ht : (0 : Nat) < 1) (hlink : Cond.fieldLink own index "LitDigits" "snapshotTaken" "[Z" ∈ ALLW) (hdg : decode cc pc = .ok (.getfield index, 3)) (kk : W p l e R s m args below meth c H locs cells slots Q (F0 m (pc + 3) ls (.ref (ad g 19 0) :: rest))) : W p l e R s m args below meth c H locs cells slots Q (F0 m pc ls (.ref (ad g 12 0) :: rest)) := r_get X h 12 0 (by decide) (by decide) rfl rfl inA_5 7 (by decide) hlink rfl rfl hdg kk
theorem gf_12_8 (X : Cx g p s m args c meth own cc) (h : Wd g mm s H locs) (_ht : (0 : Nat) < 1) (hlink : Cond.fieldLink own index "LitDigits" "saved" "[LLitDigits$State;" ∈ ALLW) (hdg : decode cc pc = .ok (.getfield index, 3)) (kk : W p l e R s m args below meth c H locs cells slots Q (F0 m (pc + 3) ls (.ref (ad g 20 0) :: rest))) : W p l e R s m args below meth c H locs cells slots Q (F0 m pc ls (.ref (ad g 12 0) :: rest)) := r_get X h 12 0 (by decide) (by decide) rfl rfl inA_5 8 (by decide) hlink rfl rfl hdg kk
theorem gf_12_9 (X : Cx g p s m args c meth own cc) (h : Wd g mm s H locs) (_ht : (0 : Nat) < 1) (hlink : Cond.fieldLink own index "LitDigits" "savedCount" "I" ∈ ALLW) (hdg : decode cc pc = .ok (.getfield index, 3)) (kk : W p l e R s m args below meth c H locs cells slots Q (F0 m (pc + 3) ls (.int (gi mm 12 0 9) :: rest))) : W p l e R s m args below meth c H locs cells slots Q (F0 m pc ls (.ref (ad g 12 0) :: rest)) := r_get X h 12 0 (by decide) (by decide) rfl rfl inA_5 9 (by decide) hlink rfl rfl hdg kk
theorem pf_12_9 {x : Int32} (X : Cx g p s m args c meth own cc) (h : Wd g mm s H locs) (_ht : (0 : Nat) < 1) (hlink : Cond.fieldLink own index "LitDigits" "savedCount" "I" ∈ ALLW) (hdg : decode cc pc = .ok (.putfield index, 3)) (kk : ∀ (H1 : Heap) (locs1 : List Loc), Wd g (si mm 12 0 9 x) s H1 locs1 → W p l e R s m args below meth c H1 locs1 cells slots Q (F0 m (pc + 3) ls rest)) : W p l e R s m args below meth c H locs cells slots Q (F0 m pc ls (.int x :: .ref (ad g 12 0) :: rest)) := r_put X h 12 0 (by decide) (by decide) tyX5 tyX5_ok nmX5 rfl rfl inA_5 9 (by decide) hlink rfl rfl (ty := .int) (by decide +kernel) rfl rfl (Nat.le_of_ble_eq_true rfl) (m1 := si mm 12 0 9 x) (by simp [cel, gi_si, gl_si, gi_sl, gl_sl]) si_off hdg kk
theorem gf_12_10 (X : Cx g p s m args c meth own cc) (h : Wd g mm s H locs) (_ht : (0 : Nat) < 1) (hlink : Cond.fieldLink own index "LitDigits" "nextSaved" "I" ∈ ALLW) (hdg : decode cc pc = .ok (.getfield index, 3)) (kk : W p l e R s m args below meth c H locs cells slots Q (F0 m (pc + 3) ls (.int (gi mm 12 0 10) :: rest))) : W p l e R s m args below meth c H locs cells slots Q (F0 m pc ls (.ref (ad g 12 0) :: rest)) := r_get X h 12 0 (by decide) (by decide) rfl rfl inA_5 10 (by decide) hlink rfl rfl hdg kk
theorem pf_12_10 {x : Int32} (X : Cx g p s m args c meth own cc) (h : Wd g mm s H locs) (_ht : (0 : Nat) < 1) (hlink : Cond.fieldLink own index "LitDigits" "nextSaved" "I" ∈ ALLW) (hdg : decode cc pc = .ok (.putfield index, 3)) (kk : ∀ (H1 : Heap) (locs1 : List Loc), Wd g (si mm 12 0 10 x) s H1 locs1 → W p l e R s m args below meth c H1 locs1 cells slots Q (F0 m (pc + 3) ls rest)) : W p l e R s m args below meth c H locs cells slots Q (F0 m pc ls (.int x :: .ref (ad g 12 0) :: rest)) := r_put X h 12 0 (by decide) (by decide) tyX5 tyX5_ok nmX5 rfl rfl inA_5 10 (by decide) hlink rfl rfl (ty := .int) (by decide +kernel) rfl rfl (Nat.le_of_ble_eq_true rfl) (m1 := si mm 12 0 10 x) (by simp [cel, gi_si, gl_si, gi_sl, gl_sl]) si_off hdg kk
theorem gf_13_0 (X : Cx g p s m args c meth own cc) (h : Wd g mm s H locs) (_ht : (0 : Nat) < 1) (hlink : Cond.fieldLink own index "LitDigits$Balance" "times" "[I" ∈ ALLW) (hdg : decode cc pc = .ok (.getfield index, 3)) (kk : W p l e R s m args below meth c H locs cells slots Q (F0 m (pc + 3) ls (.ref (ad g 14 0) :: rest))) : W p l e R s m args below meth c H locs cells slots Q (F0 m pc ls (.ref (ad g 13 0) :: rest)) := r_get X h 13 0 (by decide) (by decide) rfl rfl inA_0 0 (by decide) hlink rfl rfl hdg kk
theorem gf_13_1 (X : Cx g p s m args c meth own cc) (h : Wd g mm s H locs) (_ht : (0 : Nat) < 1) (hlink : Cond.fieldLink own index "LitDigits$Balance" "segments" "[I" ∈ ALLW) (hdg : decode cc pc = .ok (.getfield index, 3)) (kk : W p l e R s m args below meth c H locs cells slots Q (F0 m (pc + 3) ls (.ref (ad g 15 0) :: rest))) : W p l e R s m args below meth c H locs cells slots Q (F0 m pc ls (.ref (ad g 13 0) :: rest)) := r_get X h 13 0 (by decide) (by decide) rfl rfl inA_0 1 (by decide) hlink rfl rfl hdg kk
theorem gf_16_0 (X : Cx g p s m args c meth own cc) (h : Wd g mm s H locs) (_ht : (0 : Nat) < 1) (hlink : Cond.fieldLink own index "LitDigits$Text" "codes" "[C" ∈ ALLW) (hdg : decode cc pc = .ok (.getfield index, 3)) (kk : W p l e R s m args below meth c H locs cells slots Q (F0 m (pc + 3) ls (.ref (ad g 17 0) :: rest))) : W p l e R s m args below meth c H locs cells slots Q (F0 m pc ls (.ref (ad g 16 0) :: rest)) := r_get X h 16 0 (by decide) (by decide) rfl rfl inA_3 0 (by decide) hlink rfl rfl hdg kk
theorem gf_16_1 (X : Cx g p s m args c meth own cc) (h : Wd g mm s H locs) (_ht : (0 : Nat) < 1) (hlink : Cond.fieldLink own index "LitDigits$Text" "length" "I" ∈ ALLW) (hdg : decode cc pc = .ok (.getfield index, 3)) (kk : W p l e R s m args below meth c H locs cells slots Q (F0 m (pc + 3) ls (.int (gi mm 16 0 1) :: rest))) : W p l e R s m args below meth c H locs cells slots Q (F0 m pc ls (.ref (ad g 16 0) :: rest)) := r_get X h 16 0 (by decide) (by decide) rfl rfl inA_3 1 (by decide) hlink rfl rfl hdg kk
theorem pf_16_1 {x : Int32} (X : Cx g p s m args c meth own cc) (h : Wd g mm s H locs) (_ht : (0 : Nat) < 1) (hlink : Cond.fieldLink own index "LitDigits$Text" "length" "I" ∈ ALLW) (hdg : decode cc pc = .ok (.putfield index, 3)) (kk : ∀ (H1 : Heap) (locs1 : List Loc), Wd g (si mm 16 0 1 x) s H1 locs1 → W p l e R s m args below meth c H1 locs1 cells slots Q (F0 m (pc + 3) ls rest)) : W p l e R s m args below meth c H locs cells slots Q (F0 m pc ls (.int x :: .ref (ad g 16 0) :: rest)) := r_put X h 16 0 (by decide) (by decide) tyX3 tyX3_ok nmX3 rfl rfl inA_3 1 (by decide) hlink rfl rfl (ty := .int) (by decide +kernel) rfl rfl (Nat.le_of_ble_eq_true rfl) (m1 := si mm 16 0 1 x) (by simp [cel, gi_si, gl_si, gi_sl, gl_sl]) si_off hdg kk
theorem gf_21_0 (X : Cx g p s m args c meth own cc) (h : Wd g mm s H locs) (_ht : (0 : Nat) < 1) (hlink : Cond.fieldLink own index "LitDigitsModel" "thrown" "I" ∈ ALLW) (hdg : decode cc pc = .ok (.getfield index, 3)) (kk : W p l e R s m args below meth c H locs cells slots Q (F0 m (pc + 3) ls (.int (gi mm 21 0 0) :: rest))) : W p l e R s m args below meth c H locs cells slots Q (F0 m pc ls (.ref (ad g 21 0) :: rest)) := r_get X h 21 0 (by decide) (by decide) rfl rfl inA_6 0 (by decide) hlink rfl rfl hdg kk
theorem pf_21_0 {x : Int32} (X : Cx g p s m args c meth own cc) (h : Wd g mm s H locs) (_ht : (0 : Nat) < 1) (hlink : Cond.fieldLink own index "LitDigitsModel" "thrown" "I" ∈ ALLW) (hdg : decode cc pc = .ok (.putfield index, 3)) (kk : ∀ (H1 : Heap) (locs1 : List Loc), Wd g (si mm 21 0 0 x) s H1 locs1 → W p l e R s m args below meth c H1 locs1 cells slots Q (F0 m (pc + 3) ls rest)) : W p l e R s m args below meth c H locs cells slots Q (F0 m pc ls (.int x :: .ref (ad g 21 0) :: rest)) := r_put X h 21 0 (by decide) (by decide) tyX6 tyX6_ok nmX6 rfl rfl inA_6 0 (by decide) hlink rfl rfl (ty := .int) (by decide +kernel) rfl rfl (Nat.le_of_ble_eq_true rfl) (m1 := si mm 21 0 0 x) (by simp [cel, gi_si, gl_si, gi_sl, gl_sl]) si_off hdg kk
theorem gf_21_1 (X : Cx g p s m args c meth own cc) (h : Wd g mm s H locs) (_ht : (0 : Nat) < 1) (hlink : Cond.fieldLink own index "LitDigitsModel" "s" "[I" ∈ ALLW) (hdg : decode cc pc = .ok (.getfield index, 3)) (kk : W p l e R s m args below meth c H locs cells slots Q (F0 m (pc + 3) ls (.ref (ad g 22 0) :: rest))) : W p l e R s m args below meth c H locs cells slots Q (F0 m pc ls (.ref (ad g 21 0) :: rest)) := r_get X h 21 0 (by decide) (by decide) rfl rfl inA_6 1 (by decide) hlink rfl rfl hdg kk
theorem gf_21_2 (X : Cx g p s m args c meth own cc) (h : Wd g mm s H locs) (_ht : (0 : Nat) < 1) (hlink : Cond.fieldLink own index "LitDigitsModel" "saved" "[I" ∈ ALLW) (hdg : decode cc pc = .ok (.getfield index, 3)) (kk : W p l e R s m args below meth c H locs cells slots Q (F0 m (pc + 3) ls (.ref (ad g 23 0) :: rest))) : W p l e R s m args below meth c H locs cells slots Q (F0 m pc ls (.ref (ad g 21 0) :: rest)) := r_get X h 21 0 (by decide) (by decide) rfl rfl inA_6 2 (by decide) hlink rfl rfl hdg kk
theorem gf_21_3 (X : Cx g p s m args c meth own cc) (h : Wd g mm s H locs) (_ht : (0 : Nat) < 1) (hlink : Cond.fieldLink own index "LitDigitsModel" "savedMany" "I" ∈ ALLW) (hdg : decode cc pc = .ok (.getfield index, 3)) (kk : W p l e R s m args below meth c H locs cells slots Q (F0 m (pc + 3) ls (.int (gi mm 21 0 3) :: rest))) : W p l e R s m args below meth c H locs cells slots Q (F0 m pc ls (.ref (ad g 21 0) :: rest)) := r_get X h 21 0 (by decide) (by decide) rfl rfl inA_6 3 (by decide) hlink rfl rfl hdg kk
theorem pf_21_3 {x : Int32} (X : Cx g p s m args c meth own cc) (h : Wd g mm s H locs) (_ht : (0 : Nat) < 1) (hlink : Cond.fieldLink own index "LitDigitsModel" "savedMany" "I" ∈ ALLW) (hdg : decode cc pc = .ok (.putfield index, 3)) (kk : ∀ (H1 : Heap) (locs1 : List Loc), Wd g (si mm 21 0 3 x) s H1 locs1 → W p l e R s m args below meth c H1 locs1 cells slots Q (F0 m (pc + 3) ls rest)) : W p l e R s m args below meth c H locs cells slots Q (F0 m pc ls (.int x :: .ref (ad g 21 0) :: rest)) := r_put X h 21 0 (by decide) (by decide) tyX6 tyX6_ok nmX6 rfl rfl inA_6 3 (by decide) hlink rfl rfl (ty := .int) (by decide +kernel) rfl rfl (Nat.le_of_ble_eq_true rfl) (m1 := si mm 21 0 3 x) (by simp [cel, gi_si, gl_si, gi_sl, gl_sl]) si_off hdg kk
theorem gf_21_4 (X : Cx g p s m args c meth own cc) (h : Wd g mm s H locs) (_ht : (0 : Nat) < 1) (hlink : Cond.fieldLink own index "LitDigitsModel" "slots" "[I" ∈ ALLW) (hdg : decode cc pc = .ok (.getfield index, 3)) (kk : W p l e R s m args below meth c H locs cells slots Q (F0 m (pc + 3) ls (.ref (ad g 24 0) :: rest))) : W p l e R s m args below meth c H locs cells slots Q (F0 m pc ls (.ref (ad g 21 0) :: rest)) := r_get X h 21 0 (by decide) (by decide) rfl rfl inA_6 4 (by decide) hlink rfl rfl hdg kk
theorem gf_21_5 (X : Cx g p s m args c meth own cc) (h : Wd g mm s H locs) (_ht : (0 : Nat) < 1) (hlink : Cond.fieldLink own index "LitDigitsModel" "hasSlot" "[Z" ∈ ALLW) (hdg : decode cc pc = .ok (.getfield index, 3)) (kk : W p l e R s m args below meth c H locs cells slots Q (F0 m (pc + 3) ls (.ref (ad g 25 0) :: rest))) : W p l e R s m args below meth c H locs cells slots Q (F0 m pc ls (.ref (ad g 21 0) :: rest)) := r_get X h 21 0 (by decide) (by decide) rfl rfl inA_6 5 (by decide) hlink rfl rfl hdg kk
theorem gf_21_6 (X : Cx g p s m args c meth own cc) (h : Wd g mm s H locs) (_ht : (0 : Nat) < 1) (hlink : Cond.fieldLink own index "LitDigitsModel" "buffer" "[I" ∈ ALLW) (hdg : decode cc pc = .ok (.getfield index, 3)) (kk : W p l e R s m args below meth c H locs cells slots Q (F0 m (pc + 3) ls (.ref (ad g 26 0) :: rest))) : W p l e R s m args below meth c H locs cells slots Q (F0 m pc ls (.ref (ad g 21 0) :: rest)) := r_get X h 21 0 (by decide) (by decide) rfl rfl inA_6 6 (by decide) hlink rfl rfl hdg kk
theorem gf_21_7 (X : Cx g p s m args c meth own cc) (h : Wd g mm s H locs) (_ht : (0 : Nat) < 1) (hlink : Cond.fieldLink own index "LitDigitsModel" "length" "I" ∈ ALLW) (hdg : decode cc pc = .ok (.getfield index, 3)) (kk : W p l e R s m args below meth c H locs cells slots Q (F0 m (pc + 3) ls (.int (gi mm 21 0 7) :: rest))) : W p l e R s m args below meth c H locs cells slots Q (F0 m pc ls (.ref (ad g 21 0) :: rest)) := r_get X h 21 0 (by decide) (by decide) rfl rfl inA_6 7 (by decide) hlink rfl rfl hdg kk
theorem pf_21_7 {x : Int32} (X : Cx g p s m args c meth own cc) (h : Wd g mm s H locs) (_ht : (0 : Nat) < 1) (hlink : Cond.fieldLink own index "LitDigitsModel" "length" "I" ∈ ALLW) (hdg : decode cc pc = .ok (.putfield index, 3)) (kk : ∀ (H1 : Heap) (locs1 : List Loc), Wd g (si mm 21 0 7 x) s H1 locs1 → W p l e R s m args below meth c H1 locs1 cells slots Q (F0 m (pc + 3) ls rest)) : W p l e R s m args below meth c H locs cells slots Q (F0 m pc ls (.int x :: .ref (ad g 21 0) :: rest)) := r_put X h 21 0 (by decide) (by decide) tyX6 tyX6_ok nmX6 rfl rfl inA_6 7 (by decide) hlink rfl rfl (ty := .int) (by decide +kernel) rfl rfl (Nat.le_of_ble_eq_true rfl) (m1 := si mm 21 0 7 x) (by simp [cel, gi_si, gl_si, gi_sl, gl_sl]) si_off hdg kk
theorem gf_21_8 (X : Cx g p s m args c meth own cc) (h : Wd g mm s H locs) (_ht : (0 : Nat) < 1) (hlink : Cond.fieldLink own index "LitDigitsModel" "at" "I" ∈ ALLW) (hdg : decode cc pc = .ok (.getfield index, 3)) (kk : W p l e R s m args below meth c H locs cells slots Q (F0 m (pc + 3) ls (.int (gi mm 21 0 8) :: rest))) : W p l e R s m args below meth c H locs cells slots Q (F0 m pc ls (.ref (ad g 21 0) :: rest)) := r_get X h 21 0 (by decide) (by decide) rfl rfl inA_6 8 (by decide) hlink rfl rfl hdg kk
theorem pf_21_8 {x : Int32} (X : Cx g p s m args c meth own cc) (h : Wd g mm s H locs) (_ht : (0 : Nat) < 1) (hlink : Cond.fieldLink own index "LitDigitsModel" "at" "I" ∈ ALLW) (hdg : decode cc pc = .ok (.putfield index, 3)) (kk : ∀ (H1 : Heap) (locs1 : List Loc), Wd g (si mm 21 0 8 x) s H1 locs1 → W p l e R s m args below meth c H1 locs1 cells slots Q (F0 m (pc + 3) ls rest)) : W p l e R s m args below meth c H locs cells slots Q (F0 m pc ls (.int x :: .ref (ad g 21 0) :: rest)) := r_put X h 21 0 (by decide) (by decide) tyX6 tyX6_ok nmX6 rfl rfl inA_6 8 (by decide) hlink rfl rfl (ty := .int) (by decide +kernel) rfl rfl (Nat.le_of_ble_eq_true rfl) (m1 := si mm 21 0 8 x) (by simp [cel, gi_si, gl_si, gi_sl, gl_sl]) si_off hdg kk
theorem gf_21_9 (X : Cx g p s m args c meth own cc) (h : Wd g mm s H locs) (_ht : (0 : Nat) < 1) (hlink : Cond.fieldLink own index "LitDigitsModel" "isWell" "Z" ∈ ALLW) (hdg : decode cc pc = .ok (.getfield index, 3)) (kk : W p l e R s m args below meth c H locs cells slots Q (F0 m (pc + 3) ls (.int (gi mm 21 0 9) :: rest))) : W p l e R s m args below meth c H locs cells slots Q (F0 m pc ls (.ref (ad g 21 0) :: rest)) := r_get X h 21 0 (by decide) (by decide) rfl rfl inA_6 9 (by decide) hlink rfl rfl hdg kk
theorem pf_21_9 {x : Int32} (X : Cx g p s m args c meth own cc) (h : Wd g mm s H locs) (_ht : (0 : Nat) < 1) (hz : bz x) (hlink : Cond.fieldLink own index "LitDigitsModel" "isWell" "Z" ∈ ALLW) (hdg : decode cc pc = .ok (.putfield index, 3)) (kk : ∀ (H1 : Heap) (locs1 : List Loc), Wd g (si mm 21 0 9 x) s H1 locs1 → W p l e R s m args below meth c H1 locs1 cells slots Q (F0 m (pc + 3) ls rest)) : W p l e R s m args below meth c H locs cells slots Q (F0 m pc ls (.int x :: .ref (ad g 21 0) :: rest)) := r_put X h 21 0 (by decide) (by decide) tyX6 tyX6_ok nmX6 rfl rfl inA_6 9 (by decide) hlink rfl rfl (ty := .boolean) (by decide +kernel) hz.1 hz.2 (Nat.le_of_ble_eq_true rfl) (m1 := si mm 21 0 9 x) (by simp [cel, gi_si, gl_si, gi_sl, gl_sl]) si_off hdg kk
theorem gf_21_10 (X : Cx g p s m args c meth own cc) (h : Wd g mm s H locs) (_ht : (0 : Nat) < 1) (hlink : Cond.fieldLink own index "LitDigitsModel" "readSigns" "[I" ∈ ALLW) (hdg : decode cc pc = .ok (.getfield index, 3)) (kk : W p l e R s m args below meth c H locs cells slots Q (F0 m (pc + 3) ls (.ref (ad g 27 0) :: rest))) : W p l e R s m args below meth c H locs cells slots Q (F0 m pc ls (.ref (ad g 21 0) :: rest)) := r_get X h 21 0 (by decide) (by decide) rfl rfl inA_6 10 (by decide) hlink rfl rfl hdg kk
theorem gf_21_11 (X : Cx g p s m args c meth own cc) (h : Wd g mm s H locs) (_ht : (0 : Nat) < 1) (hlink : Cond.fieldLink own index "LitDigitsModel" "readDots" "[I" ∈ ALLW) (hdg : decode cc pc = .ok (.getfield index, 3)) (kk : W p l e R s m args below meth c H locs cells slots Q (F0 m (pc + 3) ls (.ref (ad g 28 0) :: rest))) : W p l e R s m args below meth c H locs cells slots Q (F0 m pc ls (.ref (ad g 21 0) :: rest)) := r_get X h 21 0 (by decide) (by decide) rfl rfl inA_6 11 (by decide) hlink rfl rfl hdg kk
theorem gf_21_12 (X : Cx g p s m args c meth own cc) (h : Wd g mm s H locs) (_ht : (0 : Nat) < 1) (hlink : Cond.fieldLink own index "LitDigitsModel" "readMany" "I" ∈ ALLW) (hdg : decode cc pc = .ok (.getfield index, 3)) (kk : W p l e R s m args below meth c H locs cells slots Q (F0 m (pc + 3) ls (.int (gi mm 21 0 12) :: rest))) : W p l e R s m args below meth c H locs cells slots Q (F0 m pc ls (.ref (ad g 21 0) :: rest)) := r_get X h 21 0 (by decide) (by decide) rfl rfl inA_6 12 (by decide) hlink rfl rfl hdg kk
theorem pf_21_12 {x : Int32} (X : Cx g p s m args c meth own cc) (h : Wd g mm s H locs) (_ht : (0 : Nat) < 1) (hlink : Cond.fieldLink own index "LitDigitsModel" "readMany" "I" ∈ ALLW) (hdg : decode cc pc = .ok (.putfield index, 3)) (kk : ∀ (H1 : Heap) (locs1 : List Loc), Wd g (si mm 21 0 12 x) s H1 locs1 → W p l e R s m args below meth c H1 locs1 cells slots Q (F0 m (pc + 3) ls rest)) : W p l e R s m args below meth c H locs cells slots Q (F0 m pc ls (.int x :: .ref (ad g 21 0) :: rest)) := r_put X h 21 0 (by decide) (by decide) tyX6 tyX6_ok nmX6 rfl rfl inA_6 12 (by decide) hlink rfl rfl (ty := .int) (by decide +kernel) rfl rfl (Nat.le_of_ble_eq_true rfl) (m1 := si mm 21 0 12 x) (by simp [cel, gi_si, gl_si, gi_sl, gl_sl]) si_off hdg kk
theorem gf_21_13 (X : Cx g p s m args c meth own cc) (h : Wd g mm s H locs) (_ht : (0 : Nat) < 1) (hlink : Cond.fieldLink own index "LitDigitsModel" "glow" "[I" ∈ ALLW) (hdg : decode cc pc = .ok (.getfield index, 3)) (kk : W p l e R s m args below meth c H locs cells slots Q (F0 m (pc + 3) ls (.ref (ad g 29 0) :: rest))) : W p l e R s m args below meth c H locs cells slots Q (F0 m pc ls (.ref (ad g 21 0) :: rest)) := r_get X h 21 0 (by decide) (by decide) rfl rfl inA_6 13 (by decide) hlink rfl rfl hdg kk
theorem gf_21_14 (X : Cx g p s m args c meth own cc) (h : Wd g mm s H locs) (_ht : (0 : Nat) < 1) (hlink : Cond.fieldLink own index "LitDigitsModel" "sums" "[I" ∈ ALLW) (hdg : decode cc pc = .ok (.getfield index, 3)) (kk : W p l e R s m args below meth c H locs cells slots Q (F0 m (pc + 3) ls (.ref (ad g 30 0) :: rest))) : W p l e R s m args below meth c H locs cells slots Q (F0 m pc ls (.ref (ad g 21 0) :: rest)) := r_get X h 21 0 (by decide) (by decide) rfl rfl inA_6 14 (by decide) hlink rfl rfl hdg kk
theorem gf_21_15 (X : Cx g p s m args c meth own cc) (h : Wd g mm s H locs) (_ht : (0 : Nat) < 1) (hlink : Cond.fieldLink own index "LitDigitsModel" "most" "[I" ∈ ALLW) (hdg : decode cc pc = .ok (.getfield index, 3)) (kk : W p l e R s m args below meth c H locs cells slots Q (F0 m (pc + 3) ls (.ref (ad g 31 0) :: rest))) : W p l e R s m args below meth c H locs cells slots Q (F0 m pc ls (.ref (ad g 21 0) :: rest)) := r_get X h 21 0 (by decide) (by decide) rfl rfl inA_6 15 (by decide) hlink rfl rfl hdg kk
theorem gf_21_16 (X : Cx g p s m args c meth own cc) (h : Wd g mm s H locs) (_ht : (0 : Nat) < 1) (hlink : Cond.fieldLink own index "LitDigitsModel" "least" "[I" ∈ ALLW) (hdg : decode cc pc = .ok (.getfield index, 3)) (kk : W p l e R s m args below meth c H locs cells slots Q (F0 m (pc + 3) ls (.ref (ad g 32 0) :: rest))) : W p l e R s m args below meth c H locs cells slots Q (F0 m pc ls (.ref (ad g 21 0) :: rest)) := r_get X h 21 0 (by decide) (by decide) rfl rfl inA_6 16 (by decide) hlink rfl rfl hdg kk
theorem gf_21_17 (X : Cx g p s m args c meth own cc) (h : Wd g mm s H locs) (_ht : (0 : Nat) < 1) (hlink : Cond.fieldLink own index "LitDigitsModel" "given" "[I" ∈ ALLW) (hdg : decode cc pc = .ok (.getfield index, 3)) (kk : W p l e R s m args below meth c H locs cells slots Q (F0 m (pc + 3) ls (.ref (ad g 33 0) :: rest))) : W p l e R s m args below meth c H locs cells slots Q (F0 m pc ls (.ref (ad g 21 0) :: rest)) := r_get X h 21 0 (by decide) (by decide) rfl rfl inA_6 17 (by decide) hlink rfl rfl hdg kk
theorem gf_21_18 (X : Cx g p s m args c meth own cc) (h : Wd g mm s H locs) (_ht : (0 : Nat) < 1) (hlink : Cond.fieldLink own index "LitDigitsModel" "hash" "J" ∈ ALLW) (hdg : decode cc pc = .ok (.getfield index, 3)) (kk : W p l e R s m args below meth c H locs cells slots Q (F0 m (pc + 3) ls (.long (gl mm 21 0) :: rest))) : W p l e R s m args below meth c H locs cells slots Q (F0 m pc ls (.ref (ad g 21 0) :: rest)) := r_get X h 21 0 (by decide) (by decide) rfl rfl inA_6 18 (by decide) hlink rfl rfl hdg kk
theorem pf_21_18 {x : Int64} (X : Cx g p s m args c meth own cc) (h : Wd g mm s H locs) (_ht : (0 : Nat) < 1) (hlink : Cond.fieldLink own index "LitDigitsModel" "hash" "J" ∈ ALLW) (hdg : decode cc pc = .ok (.putfield index, 3)) (kk : ∀ (H1 : Heap) (locs1 : List Loc), Wd g (sl mm 21 0 x) s H1 locs1 → W p l e R s m args below meth c H1 locs1 cells slots Q (F0 m (pc + 3) ls rest)) : W p l e R s m args below meth c H locs cells slots Q (F0 m pc ls (.long x :: .ref (ad g 21 0) :: rest)) := r_put X h 21 0 (by decide) (by decide) tyX6 tyX6_ok nmX6 rfl rfl inA_6 18 (by decide) hlink rfl rfl (ty := .long) (by decide +kernel) rfl rfl (Nat.le_of_ble_eq_true rfl) (m1 := sl mm 21 0 x) (by simp [cel, gi_si, gl_si, gi_sl, gl_sl]) sl_off hdg kk
end RB
theorem mw_413 : Cond.fieldLink RX5 358 "LitDigits" "SIGN_MASKS" "[I" ∈ ALLW := ALLW_in (k := 413) (by decide +kernel) (by decide +kernel)
theorem mw_115 : Cond.fieldLink RX2 15 "LitDigits$State" "burnt" "[I" ∈ ALLW := ALLW_in (k := 115) (by decide +kernel) (by decide +kernel)
theorem mw_131 : Cond.fieldLink RX2 40 "LitDigits$State" "cutLines" "I" ∈ ALLW := ALLW_in (k := 131) (by decide +kernel) (by decide +kernel)
theorem mw_112 : Cond.fieldLink RX2 9 "LitDigits$State" "signs" "[I" ∈ ALLW := ALLW_in (k := 112) (by decide +kernel) (by decide +kernel)
theorem mw_128 : Cond.fieldLink RX2 36 "LitDigits$State" "dots" "I" ∈ ALLW := ALLW_in (k := 128) (by decide +kernel) (by decide +kernel)
theorem mw_418 : Cond.methodLink RX2 60 yX2_failing ∈ ALLW := ALLW_in (k := 418) (by decide +kernel) (by decide +kernel)
theorem mw_429 : Cond.constant RJ6 265 (1431655765 : Int32) ∈ ALLW := ALLW_in (k := 429) (by decide +kernel) (by decide +kernel)
theorem mw_430 : Cond.constant RJ6 266 (858993459 : Int32) ∈ ALLW := ALLW_in (k := 430) (by decide +kernel) (by decide +kernel)
theorem mw_431 : Cond.constant RJ6 267 (252645135 : Int32) ∈ ALLW := ALLW_in (k := 431) (by decide +kernel) (by decide +kernel)
theorem mw_222 : Cond.fieldLink RX0 9 "LitDigits$Balance" "times" "[I" ∈ ALLW := ALLW_in (k := 222) (by decide +kernel) (by decide +kernel)
theorem mw_224 : Cond.fieldLink RX0 15 "LitDigits$Balance" "segments" "[I" ∈ ALLW := ALLW_in (k := 224) (by decide +kernel) (by decide +kernel)
theorem mw_600 : Cond.methodLink RX0 33 yX0_needier ∈ ALLW := ALLW_in (k := 600) (by decide +kernel) (by decide +kernel)
theorem mw_594 : Cond.methodLink RX0 18 yX2_works ∈ ALLW := ALLW_in (k := 594) (by decide +kernel) (by decide +kernel)
theorem mw_595 : Cond.methodLink RX0 24 yJ6_bitCount_0f7a4 ∈ ALLW := ALLW_in (k := 595) (by decide +kernel) (by decide +kernel)
theorem mw_596 : Cond.methodLink RX0 29 yX0_neediest ∈ ALLW := ALLW_in (k := 596) (by decide +kernel) (by decide +kernel)
theorem mw_201 : Cond.fieldLink RX1 28 "LitDigits$Eye" "looked" "[Z" ∈ ALLW := ALLW_in (k := 201) (by decide +kernel) (by decide +kernel)
theorem mw_118 : Cond.fieldLink RX2 18 "LitDigits$State" "times" "[I" ∈ ALLW := ALLW_in (k := 118) (by decide +kernel) (by decide +kernel)
theorem mw_124 : Cond.fieldLink RX2 24 "LitDigits$State" "settings" "[I" ∈ ALLW := ALLW_in (k := 124) (by decide +kernel) (by decide +kernel)
theorem mw_401 : Cond.methodLink RX2 68 yX2_ticksOf ∈ ALLW := ALLW_in (k := 401) (by decide +kernel) (by decide +kernel)
theorem mw_426 : Cond.methodLink RX2 63 yJ6_bitCount_0f7a4 ∈ ALLW := ALLW_in (k := 426) (by decide +kernel) (by decide +kernel)
theorem mw_397 : Cond.methodLink RX4 9 yX2_roundTicks ∈ ALLW := ALLW_in (k := 397) (by decide +kernel) (by decide +kernel)
theorem mw_167 : Cond.fieldLink RX4 15 "LitDigits$Turn" "roundTicks" "I" ∈ ALLW := ALLW_in (k := 167) (by decide +kernel) (by decide +kernel)
theorem mw_169 : Cond.fieldLink RX4 20 "LitDigits$Turn" "end" "I" ∈ ALLW := ALLW_in (k := 169) (by decide +kernel) (by decide +kernel)
theorem mw_405 : Cond.methodLink RX4 23 yX2_ticksOf ∈ ALLW := ALLW_in (k := 405) (by decide +kernel) (by decide +kernel)
theorem mw_119 : Cond.fieldLink RX4 27 "LitDigits$State" "times" "[I" ∈ ALLW := ALLW_in (k := 119) (by decide +kernel) (by decide +kernel)
theorem mw_168 : Cond.fieldLink RX4 31 "LitDigits$Turn" "begin" "I" ∈ ALLW := ALLW_in (k := 168) (by decide +kernel) (by decide +kernel)
theorem mw_406 : Cond.methodLink RX4 34 yX2_works ∈ ALLW := ALLW_in (k := 406) (by decide +kernel) (by decide +kernel)
theorem mw_170 : Cond.fieldLink RX4 37 "LitDigits$Turn" "works" "I" ∈ ALLW := ALLW_in (k := 170) (by decide +kernel) (by decide +kernel)
theorem mw_422 : Cond.methodLink RX4 39 yX2_lightFor ∈ ALLW := ALLW_in (k := 422) (by decide +kernel) (by decide +kernel)
theorem mw_171 : Cond.fieldLink RX4 42 "LitDigits$Turn" "light" "I" ∈ ALLW := ALLW_in (k := 171) (by decide +kernel) (by decide +kernel)
theorem mw_125 : Cond.fieldLink RX4 45 "LitDigits$State" "settings" "[I" ∈ ALLW := ALLW_in (k := 125) (by decide +kernel) (by decide +kernel)
theorem mw_174 : Cond.fieldLink RX4 48 "LitDigits$Turn" "fading" "I" ∈ ALLW := ALLW_in (k := 174) (by decide +kernel) (by decide +kernel)
theorem mw_172 : Cond.fieldLink RX4 51 "LitDigits$Turn" "ghosts" "I" ∈ ALLW := ALLW_in (k := 172) (by decide +kernel) (by decide +kernel)
theorem mw_173 : Cond.fieldLink RX4 54 "LitDigits$Turn" "ghostLight" "I" ∈ ALLW := ALLW_in (k := 173) (by decide +kernel) (by decide +kernel)
theorem mw_432 : Cond.methodLink RX4 57 yX2_litAheadOf ∈ ALLW := ALLW_in (k := 432) (by decide +kernel) (by decide +kernel)
theorem mw_116 : Cond.fieldLink RX4 60 "LitDigits$State" "burnt" "[I" ∈ ALLW := ALLW_in (k := 116) (by decide +kernel) (by decide +kernel)
theorem mw_449 : Cond.methodLink RX4 63 yJ9_max_7cf53 ∈ ALLW := ALLW_in (k := 449) (by decide +kernel) (by decide +kernel)
theorem mw_202 : Cond.fieldLink RX1 35 "LitDigits$Eye" "turn" "LLitDigits$Turn;" ∈ ALLW := ALLW_in (k := 202) (by decide +kernel) (by decide +kernel)
theorem mw_440 : Cond.methodLink RX1 47 yX4_ticksOfRound ∈ ALLW := ALLW_in (k := 440) (by decide +kernel) (by decide +kernel)
theorem mw_193 : Cond.fieldLink RX1 12 "LitDigits$Eye" "state" "LLitDigits$State;" ∈ ALLW := ALLW_in (k := 193) (by decide +kernel) (by decide +kernel)
theorem mw_122 : Cond.fieldLink RX1 51 "LitDigits$State" "glows" "[I" ∈ ALLW := ALLW_in (k := 122) (by decide +kernel) (by decide +kernel)
theorem mw_444 : Cond.constant RX1 54 (1073741824 : Int32) ∈ ALLW := ALLW_in (k := 444) (by decide +kernel) (by decide +kernel)
theorem mw_195 : Cond.fieldLink RX1 18 "LitDigits$Eye" "brightness" "[I" ∈ ALLW := ALLW_in (k := 195) (by decide +kernel) (by decide +kernel)
theorem mw_197 : Cond.fieldLink RX1 22 "LitDigits$Eye" "greatest" "[I" ∈ ALLW := ALLW_in (k := 197) (by decide +kernel) (by decide +kernel)
theorem mw_199 : Cond.fieldLink RX1 25 "LitDigits$Eye" "least" "[I" ∈ ALLW := ALLW_in (k := 199) (by decide +kernel) (by decide +kernel)
theorem mw_445 : Cond.methodLink RX1 55 yX4_glowBehind ∈ ALLW := ALLW_in (k := 445) (by decide +kernel) (by decide +kernel)
theorem mw_451 : Cond.methodLink RX1 59 yJ9_max_7cf53 ∈ ALLW := ALLW_in (k := 451) (by decide +kernel) (by decide +kernel)
theorem mw_452 : Cond.methodLink RX1 65 yJ9_min_7cf53 ∈ ALLW := ALLW_in (k := 452) (by decide +kernel) (by decide +kernel)
theorem mw_393 : Cond.methodLink RX1 39 yX4_take ∈ ALLW := ALLW_in (k := 393) (by decide +kernel) (by decide +kernel)
theorem mw_436 : Cond.methodLink RX1 43 yX1_lookAt ∈ ALLW := ALLW_in (k := 436) (by decide +kernel) (by decide +kernel)
theorem mw_126 : Cond.fieldLink RX1 68 "LitDigits$State" "settings" "[I" ∈ ALLW := ALLW_in (k := 126) (by decide +kernel) (by decide +kernel)
theorem mw_457 : Cond.methodLink RX1 71 yX1_seen ∈ ALLW := ALLW_in (k := 457) (by decide +kernel) (by decide +kernel)
theorem mw_510 : Cond.methodLink RX1 78 yX2_works ∈ ALLW := ALLW_in (k := 510) (by decide +kernel) (by decide +kernel)
theorem mw_511 : Cond.methodLink RX1 81 yJ6_bitCount_0f7a4 ∈ ALLW := ALLW_in (k := 511) (by decide +kernel) (by decide +kernel)
theorem mw_616 : Cond.methodLink RX2 30 arraycopyName ∈ ALLW := ALLW_in (k := 616) (by decide +kernel) (by decide +kernel)
theorem mw_121 : Cond.fieldLink RX2 21 "LitDigits$State" "glows" "[I" ∈ ALLW := ALLW_in (k := 121) (by decide +kernel) (by decide +kernel)
theorem mw_133 : Cond.fieldLink RX2 43 "LitDigits$State" "ticks" "I" ∈ ALLW := ALLW_in (k := 133) (by decide +kernel) (by decide +kernel)
theorem mw_135 : Cond.fieldLink RX2 46 "LitDigits$State" "position" "I" ∈ ALLW := ALLW_in (k := 135) (by decide +kernel) (by decide +kernel)
theorem mw_137 : Cond.fieldLink RX2 49 "LitDigits$State" "rounds" "I" ∈ ALLW := ALLW_in (k := 137) (by decide +kernel) (by decide +kernel)
theorem mw_240 : Cond.fieldLink RX3 15 "LitDigits$Text" "length" "I" ∈ ALLW := ALLW_in (k := 240) (by decide +kernel) (by decide +kernel)
theorem mw_238 : Cond.fieldLink RX3 9 "LitDigits$Text" "codes" "[C" ∈ ALLW := ALLW_in (k := 238) (by decide +kernel) (by decide +kernel)
theorem mw_310 : Cond.fieldLink RJ0 38 "java/lang/String" "COMPACT_STRINGS" "Z" ∈ ALLW := ALLW_in (k := 310) (by decide +kernel) (by decide +kernel)
theorem mw_1331 : Cond.fieldLink RJ0 15 "java/lang/String" "coder" "B" ∈ ALLW := ALLW_in (k := 1331) (by decide +kernel) (by decide +kernel)
theorem mw_1332 : Cond.fieldLink RJ0 9 "java/lang/String" "value" "[B" ∈ ALLW := ALLW_in (k := 1332) (by decide +kernel) (by decide +kernel)
theorem mw_316 : Cond.methodLink RJ0 335 yJ0_coder_7d493 ∈ ALLW := ALLW_in (k := 316) (by decide +kernel) (by decide +kernel)
theorem mw_323 : Cond.methodLink RJ1 88 yJ1_canEncode_9a6ad ∈ ALLW := ALLW_in (k := 323) (by decide +kernel) (by decide +kernel)
theorem mw_326 : Cond.methodLink RJ1 92 yJ9_max_7cf53 ∈ ALLW := ALLW_in (k := 326) (by decide +kernel) (by decide +kernel)
theorem mw_329 : Cond.methodLink RJ1 38 yJ9_min_7cf53 ∈ ALLW := ALLW_in (k := 329) (by decide +kernel) (by decide +kernel)
theorem mw_332 : Cond.methodLink RJ1 95 yJ1_indexOfChar_4cfef ∈ ALLW := ALLW_in (k := 332) (by decide +kernel) (by decide +kernel)
theorem mw_306 : Cond.methodLink RJ0 492 yJ0_isLatin1_aae02 ∈ ALLW := ALLW_in (k := 306) (by decide +kernel) (by decide +kernel)
theorem mw_312 : Cond.methodLink RJ0 505 yJ0_length_8abf5 ∈ ALLW := ALLW_in (k := 312) (by decide +kernel) (by decide +kernel)
theorem mw_320 : Cond.methodLink RJ0 637 yJ1_indexOf_4cfef ∈ ALLW := ALLW_in (k := 320) (by decide +kernel) (by decide +kernel)
theorem mw_302 : Cond.methodLink RJ0 633 yJ0_indexOf_7cf53 ∈ ALLW := ALLW_in (k := 302) (by decide +kernel) (by decide +kernel)
theorem mw_298 : Cond.methodLink RX3 21 yJ0_indexOf_0f7a4 ∈ ALLW := ALLW_in (k := 298) (by decide +kernel) (by decide +kernel)
theorem mw_130 : Cond.fieldLink RX3 27 "LitDigits$State" "dots" "I" ∈ ALLW := ALLW_in (k := 130) (by decide +kernel) (by decide +kernel)
theorem mw_114 : Cond.fieldLink RX3 32 "LitDigits$State" "signs" "[I" ∈ ALLW := ALLW_in (k := 114) (by decide +kernel) (by decide +kernel)
theorem mw_828 : Cond.methodLink RX4 72 yX4_glowBehind ∈ ALLW := ALLW_in (k := 828) (by decide +kernel) (by decide +kernel)
theorem mw_259 : Cond.fieldLink RX5 58 "LitDigits" "saved" "[LLitDigits$State;" ∈ ALLW := ALLW_in (k := 259) (by decide +kernel) (by decide +kernel)
theorem mw_261 : Cond.fieldLink RX5 200 "LitDigits" "nextSaved" "I" ∈ ALLW := ALLW_in (k := 261) (by decide +kernel) (by decide +kernel)
theorem mw_252 : Cond.fieldLink RX5 20 "LitDigits" "now" "LLitDigits$State;" ∈ ALLW := ALLW_in (k := 252) (by decide +kernel) (by decide +kernel)
theorem mw_612 : Cond.methodLink RX5 189 yX2_copyFrom ∈ ALLW := ALLW_in (k := 612) (by decide +kernel) (by decide +kernel)
theorem mw_260 : Cond.fieldLink RX5 195 "LitDigits" "savedCount" "I" ∈ ALLW := ALLW_in (k := 260) (by decide +kernel) (by decide +kernel)
theorem mw_555 : Cond.methodLink RX5 285 yJ9_min_7cf53 ∈ ALLW := ALLW_in (k := 555) (by decide +kernel) (by decide +kernel)
theorem mw_251 : Cond.fieldLink RX5 10 "LitDigits" "eye" "LLitDigits$Eye;" ∈ ALLW := ALLW_in (k := 251) (by decide +kernel) (by decide +kernel)
theorem mw_619 : Cond.methodLink RX5 203 yX1_forget ∈ ALLW := ALLW_in (k := 619) (by decide +kernel) (by decide +kernel)
theorem mw_255 : Cond.fieldLink RX5 36 "LitDigits" "turn" "LLitDigits$Turn;" ∈ ALLW := ALLW_in (k := 255) (by decide +kernel) (by decide +kernel)
theorem mw_823 : Cond.methodLink RX5 290 yX4_take ∈ ALLW := ALLW_in (k := 823) (by decide +kernel) (by decide +kernel)
theorem mw_123 : Cond.fieldLink RX5 294 "LitDigits$State" "glows" "[I" ∈ ALLW := ALLW_in (k := 123) (by decide +kernel) (by decide +kernel)
theorem mw_136 : Cond.fieldLink RX5 102 "LitDigits$State" "position" "I" ∈ ALLW := ALLW_in (k := 136) (by decide +kernel) (by decide +kernel)
theorem mw_824 : Cond.methodLink RX5 297 yX4_glowAfter ∈ ALLW := ALLW_in (k := 824) (by decide +kernel) (by decide +kernel)
theorem mw_256 : Cond.fieldLink RX5 43 "LitDigits" "buffer" "LLitDigits$Text;" ∈ ALLW := ALLW_in (k := 256) (by decide +kernel) (by decide +kernel)
theorem mw_241 : Cond.fieldLink RX5 154 "LitDigits$Text" "length" "I" ∈ ALLW := ALLW_in (k := 241) (by decide +kernel) (by decide +kernel)
theorem mw_293 : Cond.methodLink RX5 163 yX3_errorAt ∈ ALLW := ALLW_in (k := 293) (by decide +kernel) (by decide +kernel)
theorem mw_353 : Cond.fieldLink RJ0 1053 "jdk/internal/util/Preconditions" "SIOOBE_FORMATTER" "Ljava/util/function/BiFunction;" ∈ ALLW := ALLW_in (k := 353) (by decide +kernel) (by decide +kernel)
theorem mw_476 : Cond.methodLink RJ0 1059 yJ3_checkIndex_8e157 ∈ ALLW := ALLW_in (k := 476) (by decide +kernel) (by decide +kernel)
theorem mw_473 : Cond.methodLink RJ1 9 yJ0_checkIndex_df160 ∈ ALLW := ALLW_in (k := 473) (by decide +kernel) (by decide +kernel)
theorem mw_470 : Cond.methodLink RJ0 495 yJ1_charAt_3b067 ∈ ALLW := ALLW_in (k := 470) (by decide +kernel) (by decide +kernel)
theorem mw_466 : Cond.methodLink RX5 363 yJ0_charAt_5068e ∈ ALLW := ALLW_in (k := 466) (by decide +kernel) (by decide +kernel)
theorem mw_389 : Cond.methodLink RX5 172 yX1_look ∈ ALLW := ALLW_in (k := 389) (by decide +kernel) (by decide +kernel)
theorem mw_453 : Cond.methodLink RX5 175 yX1_readAs ∈ ALLW := ALLW_in (k := 453) (by decide +kernel) (by decide +kernel)
theorem mw_462 : Cond.methodLink RX5 179 yX5_codeOf ∈ ALLW := ALLW_in (k := 462) (by decide +kernel) (by decide +kernel)
theorem mw_486 : Cond.methodLink RX5 159 yX3_put ∈ ALLW := ALLW_in (k := 486) (by decide +kernel) (by decide +kernel)
theorem mw_490 : Cond.methodLink RX5 183 yX1_seen ∈ ALLW := ALLW_in (k := 490) (by decide +kernel) (by decide +kernel)
theorem mw_491 : Cond.methodLink RX5 83 yX5_bit ∈ ALLW := ALLW_in (k := 491) (by decide +kernel) (by decide +kernel)
theorem mw_113 : Cond.fieldLink RX5 75 "LitDigits$State" "signs" "[I" ∈ ALLW := ALLW_in (k := 113) (by decide +kernel) (by decide +kernel)
theorem mw_129 : Cond.fieldLink RX5 79 "LitDigits$State" "dots" "I" ∈ ALLW := ALLW_in (k := 129) (by decide +kernel) (by decide +kernel)
theorem mw_120 : Cond.fieldLink RX5 99 "LitDigits$State" "times" "[I" ∈ ALLW := ALLW_in (k := 120) (by decide +kernel) (by decide +kernel)
theorem mw_117 : Cond.fieldLink RX5 90 "LitDigits$State" "burnt" "[I" ∈ ALLW := ALLW_in (k := 117) (by decide +kernel) (by decide +kernel)
theorem mw_505 : Cond.methodLink RX5 238 yX2_works ∈ ALLW := ALLW_in (k := 505) (by decide +kernel) (by decide +kernel)
theorem mw_536 : Cond.methodLink RX5 301 yX2_lightFor ∈ ALLW := ALLW_in (k := 536) (by decide +kernel) (by decide +kernel)
theorem mw_568 : Cond.methodLink RX5 304 yX5_readRight ∈ ALLW := ALLW_in (k := 568) (by decide +kernel) (by decide +kernel)
theorem mw_506 : Cond.methodLink RX5 241 yX1_mean ∈ ALLW := ALLW_in (k := 506) (by decide +kernel) (by decide +kernel)
theorem mw_196 : Cond.fieldLink RX5 308 "LitDigits$Eye" "brightness" "[I" ∈ ALLW := ALLW_in (k := 196) (by decide +kernel) (by decide +kernel)
theorem mw_198 : Cond.fieldLink RX5 311 "LitDigits$Eye" "greatest" "[I" ∈ ALLW := ALLW_in (k := 198) (by decide +kernel) (by decide +kernel)
theorem mw_200 : Cond.fieldLink RX5 314 "LitDigits$Eye" "least" "[I" ∈ ALLW := ALLW_in (k := 200) (by decide +kernel) (by decide +kernel)
theorem mw_535 : Cond.methodLink RX5 341 yJ6_bitCount_0f7a4 ∈ ALLW := ALLW_in (k := 535) (by decide +kernel) (by decide +kernel)
theorem mw_496 : Cond.methodLink RX5 134 yX2_roundTicks ∈ ALLW := ALLW_in (k := 496) (by decide +kernel) (by decide +kernel)
theorem mw_523 : Cond.methodLink RX5 317 yX2_litIn ∈ ALLW := ALLW_in (k := 523) (by decide +kernel) (by decide +kernel)
theorem mw_531 : Cond.methodLink RX5 338 yX5_lightInTick ∈ ALLW := ALLW_in (k := 531) (by decide +kernel) (by decide +kernel)
theorem mw_553 : Cond.constant RX5 346 (1073741824 : Int32) ∈ ALLW := ALLW_in (k := 553) (by decide +kernel) (by decide +kernel)
theorem mw_554 : Cond.methodLink RX5 347 yJ9_max_7cf53 ∈ ALLW := ALLW_in (k := 554) (by decide +kernel) (by decide +kernel)
theorem mw_134 : Cond.fieldLink RX5 140 "LitDigits$State" "ticks" "I" ∈ ALLW := ALLW_in (k := 134) (by decide +kernel) (by decide +kernel)
theorem mw_138 : Cond.fieldLink RX5 149 "LitDigits$State" "rounds" "I" ∈ ALLW := ALLW_in (k := 138) (by decide +kernel) (by decide +kernel)
theorem mw_527 : Cond.methodLink RX5 320 yX5_lightByTicks ∈ ALLW := ALLW_in (k := 527) (by decide +kernel) (by decide +kernel)
theorem mw_537 : Cond.methodLink RX5 323 yX5_lightBySlots ∈ ALLW := ALLW_in (k := 537) (by decide +kernel) (by decide +kernel)
theorem mw_132 : Cond.fieldLink RX5 93 "LitDigits$State" "cutLines" "I" ∈ ALLW := ALLW_in (k := 132) (by decide +kernel) (by decide +kernel)
theorem mw_541 : Cond.methodLink RX5 326 yX5_workingSlots ∈ ALLW := ALLW_in (k := 541) (by decide +kernel) (by decide +kernel)
theorem mw_545 : Cond.methodLink RX5 329 yX5_slotsReadAsTheirSigns ∈ ALLW := ALLW_in (k := 545) (by decide +kernel) (by decide +kernel)
theorem mw_549 : Cond.methodLink RX5 332 yX5_unevenness ∈ ALLW := ALLW_in (k := 549) (by decide +kernel) (by decide +kernel)
theorem mw_556 : Cond.methodLink RX5 335 yX5_flicker ∈ ALLW := ALLW_in (k := 556) (by decide +kernel) (by decide +kernel)
theorem mw_580 : Cond.methodLink RX5 350 yX2_failing ∈ ALLW := ALLW_in (k := 580) (by decide +kernel) (by decide +kernel)
theorem mw_581 : Cond.methodLink RX5 353 yX5_maskOf ∈ ALLW := ALLW_in (k := 581) (by decide +kernel) (by decide +kernel)
theorem mw_253 : Cond.fieldLink RX5 23 "LitDigits" "supposedEye" "LLitDigits$Eye;" ∈ ALLW := ALLW_in (k := 253) (by decide +kernel) (by decide +kernel)
theorem mw_194 : Cond.fieldLink RX5 16 "LitDigits$Eye" "state" "LLitDigits$State;" ∈ ALLW := ALLW_in (k := 194) (by decide +kernel) (by decide +kernel)
theorem mw_254 : Cond.fieldLink RX5 29 "LitDigits" "balanced" "LLitDigits$Balance;" ∈ ALLW := ALLW_in (k := 254) (by decide +kernel) (by decide +kernel)
theorem mw_590 : Cond.methodLink RX5 108 yX0_spread ∈ ALLW := ALLW_in (k := 590) (by decide +kernel) (by decide +kernel)
theorem mw_223 : Cond.fieldLink RX5 117 "LitDigits$Balance" "times" "[I" ∈ ALLW := ALLW_in (k := 223) (by decide +kernel) (by decide +kernel)
theorem mw_497 : Cond.methodLink RX5 235 yX2_litTicks ∈ ALLW := ALLW_in (k := 497) (by decide +kernel) (by decide +kernel)
theorem mw_518 : Cond.constantLong RX5 246 (31 : Int64) ∈ ALLW := ALLW_in (k := 518) (by decide +kernel) (by decide +kernel)
theorem mw_564 : Cond.methodLink RX5 210 yX5_slotProperty ∈ ALLW := ALLW_in (k := 564) (by decide +kernel) (by decide +kernel)
theorem mw_576 : Cond.methodLink RX5 220 yX5_alikeSigns ∈ ALLW := ALLW_in (k := 576) (by decide +kernel) (by decide +kernel)
theorem mw_582 : Cond.methodLink RX5 223 yX5_lowestAlike ∈ ALLW := ALLW_in (k := 582) (by decide +kernel) (by decide +kernel)
theorem mw_586 : Cond.methodLink RX5 229 yX5_timeIfBalanced ∈ ALLW := ALLW_in (k := 586) (by decide +kernel) (by decide +kernel)
theorem mw_604 : Cond.methodLink RX5 232 yX5_leastHurt ∈ ALLW := ALLW_in (k := 604) (by decide +kernel) (by decide +kernel)
theorem mw_572 : Cond.methodLink RX5 213 yX5_segmentProperty ∈ ALLW := ALLW_in (k := 572) (by decide +kernel) (by decide +kernel)
theorem mw_627 : Cond.constantDouble RX5 356 (4611686018427387904 : UInt64) ∈ ALLW := ALLW_in (k := 627) (by decide +kernel) (by decide +kernel)
theorem mw_517 : Cond.constantLong RX5 244 (3347 : Int64) ∈ ALLW := ALLW_in (k := 517) (by decide +kernel) (by decide +kernel)
theorem mw_519 : Cond.methodLink RX5 217 yX5_number ∈ ALLW := ALLW_in (k := 519) (by decide +kernel) (by decide +kernel)
theorem mw_127 : Cond.fieldLink RX5 129 "LitDigits$State" "settings" "[I" ∈ ALLW := ALLW_in (k := 127) (by decide +kernel) (by decide +kernel)
theorem mw_560 : Cond.methodLink RX5 248 yX5_hashWithSlot ∈ ALLW := ALLW_in (k := 560) (by decide +kernel) (by decide +kernel)
theorem mw_608 : Cond.methodLink RX5 226 yX5_meanIfTimed ∈ ALLW := ALLW_in (k := 608) (by decide +kernel) (by decide +kernel)
theorem mw_623 : Cond.methodLink RX5 252 yX5_litShare ∈ ALLW := ALLW_in (k := 623) (by decide +kernel) (by decide +kernel)
theorem mw_624 : Cond.methodLink RX5 256 yX5_bitsOf ∈ ALLW := ALLW_in (k := 624) (by decide +kernel) (by decide +kernel)
theorem mw_628 : Cond.methodLink RX5 260 yX5_meanBrightness ∈ ALLW := ALLW_in (k := 628) (by decide +kernel) (by decide +kernel)
theorem mw_258 : Cond.fieldLink RX5 54 "LitDigits" "snapshotTaken" "[Z" ∈ ALLW := ALLW_in (k := 258) (by decide +kernel) (by decide +kernel)
theorem mw_239 : Cond.fieldLink RX5 264 "LitDigits$Text" "codes" "[C" ∈ ALLW := ALLW_in (k := 239) (by decide +kernel) (by decide +kernel)
theorem mw_947 : Cond.fieldLink RX6 47 "LitDigitsModel" "thrown" "I" ∈ ALLW := ALLW_in (k := 947) (by decide +kernel) (by decide +kernel)
theorem mw_1016 : Cond.methodLink RX6 55 yX6_in ∈ ALLW := ALLW_in (k := 1016) (by decide +kernel) (by decide +kernel)
theorem mw_948 : Cond.fieldLink RX6 7 "LitDigitsModel" "s" "[I" ∈ ALLW := ALLW_in (k := 948) (by decide +kernel) (by decide +kernel)
theorem mw_950 : Cond.fieldLink RX6 59 "LitDigitsModel" "savedMany" "I" ∈ ALLW := ALLW_in (k := 950) (by decide +kernel) (by decide +kernel)
theorem mw_949 : Cond.fieldLink RX6 13 "LitDigitsModel" "saved" "[I" ∈ ALLW := ALLW_in (k := 949) (by decide +kernel) (by decide +kernel)
theorem mw_1027 : Cond.methodLink RX6 62 yX6_of ∈ ALLW := ALLW_in (k := 1027) (by decide +kernel) (by decide +kernel)
theorem mw_1062 : Cond.methodLink RX6 66 yX6_segmentsOf ∈ ALLW := ALLW_in (k := 1062) (by decide +kernel) (by decide +kernel)
theorem mw_1065 : Cond.methodLink RX6 70 yX6_working ∈ ALLW := ALLW_in (k := 1065) (by decide +kernel) (by decide +kernel)
theorem mw_1058 : Cond.methodLink RX6 73 yX6_works ∈ ALLW := ALLW_in (k := 1058) (by decide +kernel) (by decide +kernel)
theorem mw_1077 : Cond.methodLink RX6 76 yX6_ones ∈ ALLW := ALLW_in (k := 1077) (by decide +kernel) (by decide +kernel)
theorem mw_1092 : Cond.methodLink RX6 79 yX6_lengthOf ∈ ALLW := ALLW_in (k := 1092) (by decide +kernel) (by decide +kernel)
theorem mw_1113 : Cond.methodLink RX6 82 yX6_light ∈ ALLW := ALLW_in (k := 1113) (by decide +kernel) (by decide +kernel)
theorem mw_1117 : Cond.methodLink RX6 85 yX6_slotAhead ∈ ALLW := ALLW_in (k := 1117) (by decide +kernel) (by decide +kernel)
theorem mw_1105 : Cond.methodLink RX6 88 yX6_slotAt ∈ ALLW := ALLW_in (k := 1105) (by decide +kernel) (by decide +kernel)
theorem mw_960 : Cond.fieldLink RX6 32 "LitDigitsModel" "glow" "[I" ∈ ALLW := ALLW_in (k := 960) (by decide +kernel) (by decide +kernel)
theorem mw_1121 : Cond.methodLink RX6 95 yX6_left ∈ ALLW := ALLW_in (k := 1121) (by decide +kernel) (by decide +kernel)
theorem mw_1109 : Cond.methodLink RX6 91 yX6_lightOf ∈ ALLW := ALLW_in (k := 1109) (by decide +kernel) (by decide +kernel)
theorem mw_1088 : Cond.methodLink RX6 98 yX6_roundTicks ∈ ALLW := ALLW_in (k := 1088) (by decide +kernel) (by decide +kernel)
theorem mw_1097 : Cond.methodLink RX6 102 yX6_copiesGlows ∈ ALLW := ALLW_in (k := 1097) (by decide +kernel) (by decide +kernel)
theorem mw_961 : Cond.fieldLink RX6 35 "LitDigitsModel" "sums" "[I" ∈ ALLW := ALLW_in (k := 961) (by decide +kernel) (by decide +kernel)
theorem mw_962 : Cond.fieldLink RX6 38 "LitDigitsModel" "most" "[I" ∈ ALLW := ALLW_in (k := 962) (by decide +kernel) (by decide +kernel)
theorem mw_963 : Cond.fieldLink RX6 41 "LitDigitsModel" "least" "[I" ∈ ALLW := ALLW_in (k := 963) (by decide +kernel) (by decide +kernel)
theorem mw_1101 : Cond.methodLink RX6 105 yX6_ticks ∈ ALLW := ALLW_in (k := 1101) (by decide +kernel) (by decide +kernel)
theorem mw_1172 : Cond.methodLink RX6 109 yX6_brightness ∈ ALLW := ALLW_in (k := 1172) (by decide +kernel) (by decide +kernel)
theorem mw_1168 : Cond.methodLink RX6 112 yX6_seenOf ∈ ALLW := ALLW_in (k := 1168) (by decide +kernel) (by decide +kernel)
theorem mw_1013 : Cond.methodLink RX6 115 yX6_isSlot ∈ ALLW := ALLW_in (k := 1013) (by decide +kernel) (by decide +kernel)
theorem mw_1023 : Cond.methodLink RX6 122 yX6_saves ∈ ALLW := ALLW_in (k := 1023) (by decide +kernel) (by decide +kernel)
theorem mw_943 : Cond.methodLink RX6 51 yX6_lay ∈ ALLW := ALLW_in (k := 943) (by decide +kernel) (by decide +kernel)
theorem mw_1019 : Cond.methodLink RX6 119 yX6_fails ∈ ALLW := ALLW_in (k := 1019) (by decide +kernel) (by decide +kernel)
theorem mw_1039 : Cond.methodLink RX6 125 yX6_isSegment ∈ ALLW := ALLW_in (k := 1039) (by decide +kernel) (by decide +kernel)
theorem mw_964 : Cond.fieldLink RX6 44 "LitDigitsModel" "given" "[I" ∈ ALLW := ALLW_in (k := 964) (by decide +kernel) (by decide +kernel)
theorem mw_1073 : Cond.methodLink RX6 128 yX6_neediest ∈ ALLW := ALLW_in (k := 1073) (by decide +kernel) (by decide +kernel)
theorem mw_1054 : Cond.methodLink RX6 131 yX6_workingSlots ∈ ALLW := ALLW_in (k := 1054) (by decide +kernel) (by decide +kernel)
theorem mw_1069 : Cond.methodLink RX6 134 yX6_gives ∈ ALLW := ALLW_in (k := 1069) (by decide +kernel) (by decide +kernel)
theorem mw_1096 : Cond.constant RX6 137 (99999 : Int32) ∈ ALLW := ALLW_in (k := 1096) (by decide +kernel) (by decide +kernel)
theorem mw_954 : Cond.fieldLink RX6 138 "LitDigitsModel" "length" "I" ∈ ALLW := ALLW_in (k := 954) (by decide +kernel) (by decide +kernel)
theorem mw_953 : Cond.fieldLink RX6 23 "LitDigitsModel" "buffer" "[I" ∈ ALLW := ALLW_in (k := 953) (by decide +kernel) (by decide +kernel)
theorem mw_955 : Cond.fieldLink RX6 141 "LitDigitsModel" "at" "I" ∈ ALLW := ALLW_in (k := 955) (by decide +kernel) (by decide +kernel)
theorem mw_1145 : Cond.methodLink RX6 144 yX6_letter ∈ ALLW := ALLW_in (k := 1145) (by decide +kernel) (by decide +kernel)
theorem mw_1149 : Cond.methodLink RX6 147 yX6_signOf ∈ ALLW := ALLW_in (k := 1149) (by decide +kernel) (by decide +kernel)
theorem mw_959 : Cond.fieldLink RX6 150 "LitDigitsModel" "readMany" "I" ∈ ALLW := ALLW_in (k := 959) (by decide +kernel) (by decide +kernel)
theorem mw_956 : Cond.fieldLink RX6 153 "LitDigitsModel" "isWell" "Z" ∈ ALLW := ALLW_in (k := 956) (by decide +kernel) (by decide +kernel)
theorem mw_957 : Cond.fieldLink RX6 26 "LitDigitsModel" "readSigns" "[I" ∈ ALLW := ALLW_in (k := 957) (by decide +kernel) (by decide +kernel)
theorem mw_958 : Cond.fieldLink RX6 29 "LitDigitsModel" "readDots" "[I" ∈ ALLW := ALLW_in (k := 958) (by decide +kernel) (by decide +kernel)
theorem mw_1141 : Cond.methodLink RX6 157 yX6_readsSign ∈ ALLW := ALLW_in (k := 1141) (by decide +kernel) (by decide +kernel)
theorem mw_1137 : Cond.methodLink RX6 160 yX6_readsAll ∈ ALLW := ALLW_in (k := 1137) (by decide +kernel) (by decide +kernel)
theorem mw_1160 : Cond.methodLink RX6 163 yX6_views ∈ ALLW := ALLW_in (k := 1160) (by decide +kernel) (by decide +kernel)
theorem mw_1164 : Cond.methodLink RX6 166 yX6_readOf ∈ ALLW := ALLW_in (k := 1164) (by decide +kernel) (by decide +kernel)
theorem mw_1176 : Cond.methodLink RX6 169 yX6_letterOf ∈ ALLW := ALLW_in (k := 1176) (by decide +kernel) (by decide +kernel)
theorem mw_951 : Cond.fieldLink RX6 16 "LitDigitsModel" "slots" "[I" ∈ ALLW := ALLW_in (k := 951) (by decide +kernel) (by decide +kernel)
theorem mw_952 : Cond.fieldLink RX6 19 "LitDigitsModel" "hasSlot" "[Z" ∈ ALLW := ALLW_in (k := 952) (by decide +kernel) (by decide +kernel)
theorem mw_1199 : Cond.methodLink RX6 172 yX6_isReadWell ∈ ALLW := ALLW_in (k := 1199) (by decide +kernel) (by decide +kernel)
theorem mw_1203 : Cond.methodLink RX6 175 yX6_meanOf ∈ ALLW := ALLW_in (k := 1203) (by decide +kernel) (by decide +kernel)
theorem mw_1195 : Cond.methodLink RX6 178 yX6_tellsSlot ∈ ALLW := ALLW_in (k := 1195) (by decide +kernel) (by decide +kernel)
theorem mw_1211 : Cond.methodLink RX6 181 yX6_tellsSegment ∈ ALLW := ALLW_in (k := 1211) (by decide +kernel) (by decide +kernel)
theorem mw_1223 : Cond.methodLink RX6 185 yX6_nextLit ∈ ALLW := ALLW_in (k := 1223) (by decide +kernel) (by decide +kernel)
theorem mw_1227 : Cond.methodLink RX6 188 yX6_allLight ∈ ALLW := ALLW_in (k := 1227) (by decide +kernel) (by decide +kernel)
theorem mw_1231 : Cond.methodLink RX6 191 yX6_readWell ∈ ALLW := ALLW_in (k := 1231) (by decide +kernel) (by decide +kernel)
theorem mw_1235 : Cond.methodLink RX6 194 yX6_apart ∈ ALLW := ALLW_in (k := 1235) (by decide +kernel) (by decide +kernel)
theorem mw_1239 : Cond.methodLink RX6 197 yX6_flicker ∈ ALLW := ALLW_in (k := 1239) (by decide +kernel) (by decide +kernel)
theorem mw_1219 : Cond.methodLink RX6 200 yX6_tellsCount ∈ ALLW := ALLW_in (k := 1219) (by decide +kernel) (by decide +kernel)
theorem mw_1251 : Cond.methodLink RX6 203 yX6_could ∈ ALLW := ALLW_in (k := 1251) (by decide +kernel) (by decide +kernel)
theorem mw_1259 : Cond.methodLink RX6 206 yX6_timed ∈ ALLW := ALLW_in (k := 1259) (by decide +kernel) (by decide +kernel)
theorem mw_1267 : Cond.methodLink RX6 209 yX6_balanced ∈ ALLW := ALLW_in (k := 1267) (by decide +kernel) (by decide +kernel)
theorem mw_1275 : Cond.methodLink RX6 212 yX6_safestSign ∈ ALLW := ALLW_in (k := 1275) (by decide +kernel) (by decide +kernel)
theorem mw_1283 : Cond.methodLink RX6 215 yX6_lit ∈ ALLW := ALLW_in (k := 1283) (by decide +kernel) (by decide +kernel)
theorem mw_1291 : Cond.methodLink RX6 219 yX6_mean ∈ ALLW := ALLW_in (k := 1291) (by decide +kernel) (by decide +kernel)
theorem mw_1304 : Cond.constantLong RX6 223 (31 : Int64) ∈ ALLW := ALLW_in (k := 1304) (by decide +kernel) (by decide +kernel)
theorem mw_965 : Cond.fieldLink RX6 225 "LitDigitsModel" "hash" "J" ∈ ALLW := ALLW_in (k := 965) (by decide +kernel) (by decide +kernel)
theorem mw_1300 : Cond.methodLink RX6 229 yX6_hashes ∈ ALLW := ALLW_in (k := 1300) (by decide +kernel) (by decide +kernel)
theorem mw_1312 : Cond.methodLink RJxe99ae 122 yJxe99ae_isNaN_b9ae7 ∈ ALLW := ALLW_in (k := 1312) (by decide +kernel) (by decide +kernel)
theorem mw_1318 : Cond.constantLong RJxe99ae 137 (9221120237041090560 : Int64) ∈ ALLW := ALLW_in (k := 1318) (by decide +kernel) (by decide +kernel)
theorem mw_1315 : Cond.methodLink RJxe99ae 134 ⟨"java/lang/Double", "doubleToRawLongBits", "(D)J"⟩ ∈ ALLW := ALLW_in (k := 1315) (by decide +kernel) (by decide +kernel)
theorem mw_1322 : Cond.methodLink RJxf58ca 59 yJxf58ca_isNaN_12338 ∈ ALLW := ALLW_in (k := 1322) (by decide +kernel) (by decide +kernel)
theorem mw_1328 : Cond.constant RJxf58ca 77 (2143289344 : Int32) ∈ ALLW := ALLW_in (k := 1328) (by decide +kernel) (by decide +kernel)
theorem mw_1325 : Cond.methodLink RJxf58ca 74 ⟨"java/lang/Float", "floatToRawIntBits", "(F)I"⟩ ∈ ALLW := ALLW_in (k := 1325) (by decide +kernel) (by decide +kernel)
theorem mw_1299 : Cond.constantLong RX6 233 (3347 : Int64) ∈ ALLW := ALLW_in (k := 1299) (by decide +kernel) (by decide +kernel)
theorem mw_1305 : Cond.methodLink RX6 235 yX6_hashesSlot ∈ ALLW := ALLW_in (k := 1305) (by decide +kernel) (by decide +kernel)
theorem mw_1309 : Cond.methodLink RX6 238 yJxe99ae_doubleToLongBits_ccdee ∈ ALLW := ALLW_in (k := 1309) (by decide +kernel) (by decide +kernel)
theorem mw_1319 : Cond.methodLink RX6 244 yJxf58ca_floatToIntBits_5c35a ∈ ALLW := ALLW_in (k := 1319) (by decide +kernel) (by decide +kernel)
theorem mw_638 : Cond.methodLink RX5 61 yX5_checkSlot ∈ ALLW := ALLW_in (k := 638) (by decide +kernel) (by decide +kernel)
theorem mw_724 : Cond.methodLink RX5 72 yX5_saveState ∈ ALLW := ALLW_in (k := 724) (by decide +kernel) (by decide +kernel)
theorem mw_742 : Cond.methodLink RX5 87 yX5_checkSegment ∈ ALLW := ALLW_in (k := 742) (by decide +kernel) (by decide +kernel)
theorem mw_760 : Cond.methodLink RX5 96 yX5_checkTime ∈ ALLW := ALLW_in (k := 760) (by decide +kernel) (by decide +kernel)
theorem mw_772 : Cond.methodLink RX5 105 yX5_checkBalanced ∈ ALLW := ALLW_in (k := 772) (by decide +kernel) (by decide +kernel)
theorem mw_799 : Cond.methodLink RX5 118 yX5_checkSetting ∈ ALLW := ALLW_in (k := 799) (by decide +kernel) (by decide +kernel)
theorem mw_803 : Cond.fieldLink RX5 121 "LitDigits" "LEAST_SETTINGS" "[I" ∈ ALLW := ALLW_in (k := 803) (by decide +kernel) (by decide +kernel)
theorem mw_805 : Cond.fieldLink RX5 124 "LitDigits" "MOST_SETTINGS" "[I" ∈ ALLW := ALLW_in (k := 805) (by decide +kernel) (by decide +kernel)
theorem mw_817 : Cond.constant RX5 143 (99999 : Int32) ∈ ALLW := ALLW_in (k := 817) (by decide +kernel) (by decide +kernel)
theorem mw_819 : Cond.methodLink RX5 146 yX5_fadeAndLight ∈ ALLW := ALLW_in (k := 819) (by decide +kernel) (by decide +kernel)
theorem mw_846 : Cond.methodLink RX5 168 yX3_putOn ∈ ALLW := ALLW_in (k := 846) (by decide +kernel) (by decide +kernel)
theorem mw_857 : Cond.methodLink RX5 186 yX5_checkSnapshot ∈ ALLW := ALLW_in (k := 857) (by decide +kernel) (by decide +kernel)
theorem mw_257 : Cond.fieldLink RX5 49 "LitDigits" "snapshots" "[LLitDigits$State;" ∈ ALLW := ALLW_in (k := 257) (by decide +kernel) (by decide +kernel)
theorem mw_884 : Cond.methodLink RX5 206 yX5_checkWhat ∈ ALLW := ALLW_in (k := 884) (by decide +kernel) (by decide +kernel)
theorem mw_467 : Cond.instanceMethod yJ0_charAt_5068e ∈ ALLW := ALLW_in (k := 467) (by decide +kernel) (by decide +kernel)
theorem mw_468 : Cond.selects RJ0 yJ0_charAt_5068e yJ0_charAt_5068e ∈ ALLW := ALLW_in (k := 468) (by decide +kernel) (by decide +kernel)
theorem mw_83 : Cond.initialized RJ0 ∈ ALLW := ALLW_in (k := 83) (by decide +kernel) (by decide +kernel)
theorem mw_469 : Cond.code yJ0_charAt_5068e cJ0_charAt_5068e 2 (some .char) ∈ ALLW := ALLW_in (k := 469) (by decide +kernel) (by decide +kernel)
theorem mw_474 : Cond.static yJ0_checkIndex_df160 ∈ ALLW := ALLW_in (k := 474) (by decide +kernel) (by decide +kernel)
theorem mw_475 : Cond.code yJ0_checkIndex_df160 cJ0_checkIndex_df160 2 none ∈ ALLW := ALLW_in (k := 475) (by decide +kernel) (by decide +kernel)
theorem mw_317 : Cond.instanceMethod yJ0_coder_7d493 ∈ ALLW := ALLW_in (k := 317) (by decide +kernel) (by decide +kernel)
theorem mw_318 : Cond.selects RJ0 yJ0_coder_7d493 yJ0_coder_7d493 ∈ ALLW := ALLW_in (k := 318) (by decide +kernel) (by decide +kernel)
theorem mw_319 : Cond.code yJ0_coder_7d493 cJ0_coder_7d493 1 (some .byte) ∈ ALLW := ALLW_in (k := 319) (by decide +kernel) (by decide +kernel)
theorem mw_299 : Cond.instanceMethod yJ0_indexOf_0f7a4 ∈ ALLW := ALLW_in (k := 299) (by decide +kernel) (by decide +kernel)
theorem mw_300 : Cond.selects RJ0 yJ0_indexOf_0f7a4 yJ0_indexOf_0f7a4 ∈ ALLW := ALLW_in (k := 300) (by decide +kernel) (by decide +kernel)
theorem mw_301 : Cond.code yJ0_indexOf_0f7a4 cJ0_indexOf_0f7a4 2 (some .int) ∈ ALLW := ALLW_in (k := 301) (by decide +kernel) (by decide +kernel)
theorem mw_303 : Cond.instanceMethod yJ0_indexOf_7cf53 ∈ ALLW := ALLW_in (k := 303) (by decide +kernel) (by decide +kernel)
theorem mw_304 : Cond.selects RJ0 yJ0_indexOf_7cf53 yJ0_indexOf_7cf53 ∈ ALLW := ALLW_in (k := 304) (by decide +kernel) (by decide +kernel)
theorem mw_305 : Cond.code yJ0_indexOf_7cf53 cJ0_indexOf_7cf53 3 (some .int) ∈ ALLW := ALLW_in (k := 305) (by decide +kernel) (by decide +kernel)
theorem mw_307 : Cond.instanceMethod yJ0_isLatin1_aae02 ∈ ALLW := ALLW_in (k := 307) (by decide +kernel) (by decide +kernel)
theorem mw_308 : Cond.selects RJ0 yJ0_isLatin1_aae02 yJ0_isLatin1_aae02 ∈ ALLW := ALLW_in (k := 308) (by decide +kernel) (by decide +kernel)
theorem mw_309 : Cond.code yJ0_isLatin1_aae02 cJ0_isLatin1_aae02 1 (some .boolean) ∈ ALLW := ALLW_in (k := 309) (by decide +kernel) (by decide +kernel)
theorem mw_313 : Cond.instanceMethod yJ0_length_8abf5 ∈ ALLW := ALLW_in (k := 313) (by decide +kernel) (by decide +kernel)
theorem mw_314 : Cond.selects RJ0 yJ0_length_8abf5 yJ0_length_8abf5 ∈ ALLW := ALLW_in (k := 314) (by decide +kernel) (by decide +kernel)
theorem mw_315 : Cond.code yJ0_length_8abf5 cJ0_length_8abf5 1 (some .int) ∈ ALLW := ALLW_in (k := 315) (by decide +kernel) (by decide +kernel)
theorem mw_324 : Cond.static yJ1_canEncode_9a6ad ∈ ALLW := ALLW_in (k := 324) (by decide +kernel) (by decide +kernel)
theorem mw_84 : Cond.initialized RJ1 ∈ ALLW := ALLW_in (k := 84) (by decide +kernel) (by decide +kernel)
theorem mw_325 : Cond.code yJ1_canEncode_9a6ad cJ1_canEncode_9a6ad 1 (some .boolean) ∈ ALLW := ALLW_in (k := 325) (by decide +kernel) (by decide +kernel)
theorem mw_471 : Cond.static yJ1_charAt_3b067 ∈ ALLW := ALLW_in (k := 471) (by decide +kernel) (by decide +kernel)
theorem mw_472 : Cond.code yJ1_charAt_3b067 cJ1_charAt_3b067 2 (some .char) ∈ ALLW := ALLW_in (k := 472) (by decide +kernel) (by decide +kernel)
theorem mw_333 : Cond.static yJ1_indexOfChar_4cfef ∈ ALLW := ALLW_in (k := 333) (by decide +kernel) (by decide +kernel)
theorem mw_334 : Cond.code yJ1_indexOfChar_4cfef cJ1_indexOfChar_4cfef 6 (some .int) ∈ ALLW := ALLW_in (k := 334) (by decide +kernel) (by decide +kernel)
theorem mw_321 : Cond.static yJ1_indexOf_4cfef ∈ ALLW := ALLW_in (k := 321) (by decide +kernel) (by decide +kernel)
theorem mw_322 : Cond.code yJ1_indexOf_4cfef cJ1_indexOf_4cfef 4 (some .int) ∈ ALLW := ALLW_in (k := 322) (by decide +kernel) (by decide +kernel)
theorem mw_477 : Cond.static yJ3_checkIndex_8e157 ∈ ALLW := ALLW_in (k := 477) (by decide +kernel) (by decide +kernel)
theorem mw_86 : Cond.initialized RJ3 ∈ ALLW := ALLW_in (k := 86) (by decide +kernel) (by decide +kernel)
theorem mw_478 : Cond.code yJ3_checkIndex_8e157 cJ3_checkIndex_8e157 3 (some .int) ∈ ALLW := ALLW_in (k := 478) (by decide +kernel) (by decide +kernel)
theorem mw_427 : Cond.static yJ6_bitCount_0f7a4 ∈ ALLW := ALLW_in (k := 427) (by decide +kernel) (by decide +kernel)
theorem mw_81 : Cond.initialized RJ6 ∈ ALLW := ALLW_in (k := 81) (by decide +kernel) (by decide +kernel)
theorem mw_428 : Cond.code yJ6_bitCount_0f7a4 cJ6_bitCount_0f7a4 1 (some .int) ∈ ALLW := ALLW_in (k := 428) (by decide +kernel) (by decide +kernel)
theorem mw_1310 : Cond.static yJxe99ae_doubleToLongBits_ccdee ∈ ALLW := ALLW_in (k := 1310) (by decide +kernel) (by decide +kernel)
theorem mw_88 : Cond.initialized RJxe99ae ∈ ALLW := ALLW_in (k := 88) (by decide +kernel) (by decide +kernel)
theorem mw_1311 : Cond.code yJxe99ae_doubleToLongBits_ccdee cJxe99ae_doubleToLongBits_ccdee 2 (some .long) ∈ ALLW := ALLW_in (k := 1311) (by decide +kernel) (by decide +kernel)
theorem mw_1313 : Cond.static yJxe99ae_isNaN_b9ae7 ∈ ALLW := ALLW_in (k := 1313) (by decide +kernel) (by decide +kernel)
theorem mw_1314 : Cond.code yJxe99ae_isNaN_b9ae7 cJxe99ae_isNaN_b9ae7 2 (some .boolean) ∈ ALLW := ALLW_in (k := 1314) (by decide +kernel) (by decide +kernel)
theorem mw_1320 : Cond.static yJxf58ca_floatToIntBits_5c35a ∈ ALLW := ALLW_in (k := 1320) (by decide +kernel) (by decide +kernel)
theorem mw_89 : Cond.initialized RJxf58ca ∈ ALLW := ALLW_in (k := 89) (by decide +kernel) (by decide +kernel)
theorem mw_1321 : Cond.code yJxf58ca_floatToIntBits_5c35a cJxf58ca_floatToIntBits_5c35a 1 (some .int) ∈ ALLW := ALLW_in (k := 1321) (by decide +kernel) (by decide +kernel)
theorem mw_1323 : Cond.static yJxf58ca_isNaN_12338 ∈ ALLW := ALLW_in (k := 1323) (by decide +kernel) (by decide +kernel)
theorem mw_1324 : Cond.code yJxf58ca_isNaN_12338 cJxf58ca_isNaN_12338 1 (some .boolean) ∈ ALLW := ALLW_in (k := 1324) (by decide +kernel) (by decide +kernel)
theorem mw_602 : Cond.instanceMethod yX0_needier ∈ ALLW := ALLW_in (k := 602) (by decide +kernel) (by decide +kernel)
theorem mw_17 : Cond.selects RX0 yX0_needier yX0_needier ∈ ALLW := ALLW_in (k := 17) (by decide +kernel) (by decide +kernel)
theorem mw_71 : Cond.initialized RX0 ∈ ALLW := ALLW_in (k := 71) (by decide +kernel) (by decide +kernel)
theorem mw_603 : Cond.code yX0_needier cX0_needier 3 (some .boolean) ∈ ALLW := ALLW_in (k := 603) (by decide +kernel) (by decide +kernel)
theorem mw_598 : Cond.instanceMethod yX0_neediest ∈ ALLW := ALLW_in (k := 598) (by decide +kernel) (by decide +kernel)
theorem mw_16 : Cond.selects RX0 yX0_neediest yX0_neediest ∈ ALLW := ALLW_in (k := 16) (by decide +kernel) (by decide +kernel)
theorem mw_599 : Cond.code yX0_neediest cX0_neediest 4 (some .int) ∈ ALLW := ALLW_in (k := 599) (by decide +kernel) (by decide +kernel)
theorem mw_591 : Cond.instanceMethod yX0_spread ∈ ALLW := ALLW_in (k := 591) (by decide +kernel) (by decide +kernel)
theorem mw_592 : Cond.selects RX0 yX0_spread yX0_spread ∈ ALLW := ALLW_in (k := 592) (by decide +kernel) (by decide +kernel)
theorem mw_593 : Cond.code yX0_spread cX0_spread 6 (some .int) ∈ ALLW := ALLW_in (k := 593) (by decide +kernel) (by decide +kernel)
theorem mw_620 : Cond.instanceMethod yX1_forget ∈ ALLW := ALLW_in (k := 620) (by decide +kernel) (by decide +kernel)
theorem mw_621 : Cond.selects RX1 yX1_forget yX1_forget ∈ ALLW := ALLW_in (k := 621) (by decide +kernel) (by decide +kernel)
theorem mw_68 : Cond.initialized RX1 ∈ ALLW := ALLW_in (k := 68) (by decide +kernel) (by decide +kernel)
theorem mw_622 : Cond.code yX1_forget cX1_forget 2 none ∈ ALLW := ALLW_in (k := 622) (by decide +kernel) (by decide +kernel)
theorem mw_390 : Cond.instanceMethod yX1_look ∈ ALLW := ALLW_in (k := 390) (by decide +kernel) (by decide +kernel)
theorem mw_391 : Cond.selects RX1 yX1_look yX1_look ∈ ALLW := ALLW_in (k := 391) (by decide +kernel) (by decide +kernel)
theorem mw_392 : Cond.code yX1_look cX1_look 3 none ∈ ALLW := ALLW_in (k := 392) (by decide +kernel) (by decide +kernel)
theorem mw_438 : Cond.instanceMethod yX1_lookAt ∈ ALLW := ALLW_in (k := 438) (by decide +kernel) (by decide +kernel)
theorem mw_0 : Cond.selects RX1 yX1_lookAt yX1_lookAt ∈ ALLW := ALLW_in (k := 0) (by decide +kernel) (by decide +kernel)
theorem mw_439 : Cond.code yX1_lookAt cX1_lookAt 11 none ∈ ALLW := ALLW_in (k := 439) (by decide +kernel) (by decide +kernel)
theorem mw_507 : Cond.instanceMethod yX1_mean ∈ ALLW := ALLW_in (k := 507) (by decide +kernel) (by decide +kernel)
theorem mw_508 : Cond.selects RX1 yX1_mean yX1_mean ∈ ALLW := ALLW_in (k := 508) (by decide +kernel) (by decide +kernel)
theorem mw_509 : Cond.code yX1_mean cX1_mean 6 (some .int) ∈ ALLW := ALLW_in (k := 509) (by decide +kernel) (by decide +kernel)
theorem mw_454 : Cond.instanceMethod yX1_readAs ∈ ALLW := ALLW_in (k := 454) (by decide +kernel) (by decide +kernel)
theorem mw_455 : Cond.selects RX1 yX1_readAs yX1_readAs ∈ ALLW := ALLW_in (k := 455) (by decide +kernel) (by decide +kernel)
theorem mw_456 : Cond.code yX1_readAs cX1_readAs 4 (some .int) ∈ ALLW := ALLW_in (k := 456) (by decide +kernel) (by decide +kernel)
theorem mw_458 : Cond.instanceMethod yX1_seen ∈ ALLW := ALLW_in (k := 458) (by decide +kernel) (by decide +kernel)
theorem mw_459 : Cond.selects RX1 yX1_seen yX1_seen ∈ ALLW := ALLW_in (k := 459) (by decide +kernel) (by decide +kernel)
theorem mw_460 : Cond.code yX1_seen cX1_seen 4 (some .int) ∈ ALLW := ALLW_in (k := 460) (by decide +kernel) (by decide +kernel)
theorem mw_613 : Cond.instanceMethod yX2_copyFrom ∈ ALLW := ALLW_in (k := 613) (by decide +kernel) (by decide +kernel)
theorem mw_614 : Cond.selects RX2 yX2_copyFrom yX2_copyFrom ∈ ALLW := ALLW_in (k := 614) (by decide +kernel) (by decide +kernel)
theorem mw_69 : Cond.initialized RX2 ∈ ALLW := ALLW_in (k := 69) (by decide +kernel) (by decide +kernel)
theorem mw_615 : Cond.code yX2_copyFrom cX2_copyFrom 2 none ∈ ALLW := ALLW_in (k := 615) (by decide +kernel) (by decide +kernel)
theorem mw_419 : Cond.instanceMethod yX2_failing ∈ ALLW := ALLW_in (k := 419) (by decide +kernel) (by decide +kernel)
theorem mw_420 : Cond.selects RX2 yX2_failing yX2_failing ∈ ALLW := ALLW_in (k := 420) (by decide +kernel) (by decide +kernel)
theorem mw_421 : Cond.code yX2_failing cX2_failing 2 (some .int) ∈ ALLW := ALLW_in (k := 421) (by decide +kernel) (by decide +kernel)
theorem mw_423 : Cond.instanceMethod yX2_lightFor ∈ ALLW := ALLW_in (k := 423) (by decide +kernel) (by decide +kernel)
theorem mw_424 : Cond.selects RX2 yX2_lightFor yX2_lightFor ∈ ALLW := ALLW_in (k := 424) (by decide +kernel) (by decide +kernel)
theorem mw_425 : Cond.code yX2_lightFor cX2_lightFor 3 (some .int) ∈ ALLW := ALLW_in (k := 425) (by decide +kernel) (by decide +kernel)
theorem mw_433 : Cond.instanceMethod yX2_litAheadOf ∈ ALLW := ALLW_in (k := 433) (by decide +kernel) (by decide +kernel)
theorem mw_434 : Cond.selects RX2 yX2_litAheadOf yX2_litAheadOf ∈ ALLW := ALLW_in (k := 434) (by decide +kernel) (by decide +kernel)
theorem mw_435 : Cond.code yX2_litAheadOf cX2_litAheadOf 4 (some .int) ∈ ALLW := ALLW_in (k := 435) (by decide +kernel) (by decide +kernel)
theorem mw_524 : Cond.instanceMethod yX2_litIn ∈ ALLW := ALLW_in (k := 524) (by decide +kernel) (by decide +kernel)
theorem mw_525 : Cond.selects RX2 yX2_litIn yX2_litIn ∈ ALLW := ALLW_in (k := 525) (by decide +kernel) (by decide +kernel)
theorem mw_526 : Cond.code yX2_litIn cX2_litIn 4 (some .int) ∈ ALLW := ALLW_in (k := 526) (by decide +kernel) (by decide +kernel)
theorem mw_498 : Cond.instanceMethod yX2_litTicks ∈ ALLW := ALLW_in (k := 498) (by decide +kernel) (by decide +kernel)
theorem mw_499 : Cond.selects RX2 yX2_litTicks yX2_litTicks ∈ ALLW := ALLW_in (k := 499) (by decide +kernel) (by decide +kernel)
theorem mw_500 : Cond.code yX2_litTicks cX2_litTicks 3 (some .int) ∈ ALLW := ALLW_in (k := 500) (by decide +kernel) (by decide +kernel)
theorem mw_398 : Cond.instanceMethod yX2_roundTicks ∈ ALLW := ALLW_in (k := 398) (by decide +kernel) (by decide +kernel)
theorem mw_399 : Cond.selects RX2 yX2_roundTicks yX2_roundTicks ∈ ALLW := ALLW_in (k := 399) (by decide +kernel) (by decide +kernel)
theorem mw_400 : Cond.code yX2_roundTicks cX2_roundTicks 3 (some .int) ∈ ALLW := ALLW_in (k := 400) (by decide +kernel) (by decide +kernel)
theorem mw_402 : Cond.instanceMethod yX2_ticksOf ∈ ALLW := ALLW_in (k := 402) (by decide +kernel) (by decide +kernel)
theorem mw_403 : Cond.selects RX2 yX2_ticksOf yX2_ticksOf ∈ ALLW := ALLW_in (k := 403) (by decide +kernel) (by decide +kernel)
theorem mw_404 : Cond.code yX2_ticksOf cX2_ticksOf 2 (some .int) ∈ ALLW := ALLW_in (k := 404) (by decide +kernel) (by decide +kernel)
theorem mw_407 : Cond.instanceMethod yX2_works ∈ ALLW := ALLW_in (k := 407) (by decide +kernel) (by decide +kernel)
theorem mw_408 : Cond.selects RX2 yX2_works yX2_works ∈ ALLW := ALLW_in (k := 408) (by decide +kernel) (by decide +kernel)
theorem mw_409 : Cond.code yX2_works cX2_works 3 (some .int) ∈ ALLW := ALLW_in (k := 409) (by decide +kernel) (by decide +kernel)
theorem mw_294 : Cond.instanceMethod yX3_errorAt ∈ ALLW := ALLW_in (k := 294) (by decide +kernel) (by decide +kernel)
theorem mw_295 : Cond.selects RX3 yX3_errorAt yX3_errorAt ∈ ALLW := ALLW_in (k := 295) (by decide +kernel) (by decide +kernel)
theorem mw_72 : Cond.initialized RX3 ∈ ALLW := ALLW_in (k := 72) (by decide +kernel) (by decide +kernel)
theorem mw_296 : Cond.code yX3_errorAt cX3_errorAt 4 (some .int) ∈ ALLW := ALLW_in (k := 296) (by decide +kernel) (by decide +kernel)
theorem mw_487 : Cond.instanceMethod yX3_put ∈ ALLW := ALLW_in (k := 487) (by decide +kernel) (by decide +kernel)
theorem mw_488 : Cond.selects RX3 yX3_put yX3_put ∈ ALLW := ALLW_in (k := 488) (by decide +kernel) (by decide +kernel)
theorem mw_489 : Cond.code yX3_put cX3_put 2 none ∈ ALLW := ALLW_in (k := 489) (by decide +kernel) (by decide +kernel)
theorem mw_847 : Cond.instanceMethod yX3_putOn ∈ ALLW := ALLW_in (k := 847) (by decide +kernel) (by decide +kernel)
theorem mw_848 : Cond.selects RX3 yX3_putOn yX3_putOn ∈ ALLW := ALLW_in (k := 848) (by decide +kernel) (by decide +kernel)
theorem mw_849 : Cond.code yX3_putOn cX3_putOn 4 (some .int) ∈ ALLW := ALLW_in (k := 849) (by decide +kernel) (by decide +kernel)
theorem mw_825 : Cond.instanceMethod yX4_glowAfter ∈ ALLW := ALLW_in (k := 825) (by decide +kernel) (by decide +kernel)
theorem mw_826 : Cond.selects RX4 yX4_glowAfter yX4_glowAfter ∈ ALLW := ALLW_in (k := 826) (by decide +kernel) (by decide +kernel)
theorem mw_70 : Cond.initialized RX4 ∈ ALLW := ALLW_in (k := 70) (by decide +kernel) (by decide +kernel)
theorem mw_827 : Cond.code yX4_glowAfter cX4_glowAfter 8 (some .int) ∈ ALLW := ALLW_in (k := 827) (by decide +kernel) (by decide +kernel)
theorem mw_446 : Cond.instanceMethod yX4_glowBehind ∈ ALLW := ALLW_in (k := 446) (by decide +kernel) (by decide +kernel)
theorem mw_447 : Cond.selects RX4 yX4_glowBehind yX4_glowBehind ∈ ALLW := ALLW_in (k := 447) (by decide +kernel) (by decide +kernel)
theorem mw_448 : Cond.code yX4_glowBehind cX4_glowBehind 6 (some .int) ∈ ALLW := ALLW_in (k := 448) (by decide +kernel) (by decide +kernel)
theorem mw_394 : Cond.instanceMethod yX4_take ∈ ALLW := ALLW_in (k := 394) (by decide +kernel) (by decide +kernel)
theorem mw_395 : Cond.selects RX4 yX4_take yX4_take ∈ ALLW := ALLW_in (k := 395) (by decide +kernel) (by decide +kernel)
theorem mw_396 : Cond.code yX4_take cX4_take 5 none ∈ ALLW := ALLW_in (k := 396) (by decide +kernel) (by decide +kernel)
theorem mw_441 : Cond.instanceMethod yX4_ticksOfRound ∈ ALLW := ALLW_in (k := 441) (by decide +kernel) (by decide +kernel)
theorem mw_442 : Cond.selects RX4 yX4_ticksOfRound yX4_ticksOfRound ∈ ALLW := ALLW_in (k := 442) (by decide +kernel) (by decide +kernel)
theorem mw_443 : Cond.code yX4_ticksOfRound cX4_ticksOfRound 1 (some .int) ∈ ALLW := ALLW_in (k := 443) (by decide +kernel) (by decide +kernel)
theorem mw_578 : Cond.instanceMethod yX5_alikeSigns ∈ ALLW := ALLW_in (k := 578) (by decide +kernel) (by decide +kernel)
theorem mw_13 : Cond.selects RX5 yX5_alikeSigns yX5_alikeSigns ∈ ALLW := ALLW_in (k := 13) (by decide +kernel) (by decide +kernel)
theorem mw_67 : Cond.initialized RX5 ∈ ALLW := ALLW_in (k := 67) (by decide +kernel) (by decide +kernel)
theorem mw_579 : Cond.code yX5_alikeSigns cX5_alikeSigns 6 (some .int) ∈ ALLW := ALLW_in (k := 579) (by decide +kernel) (by decide +kernel)
theorem mw_416 : Cond.static yX5_bit ∈ ALLW := ALLW_in (k := 416) (by decide +kernel) (by decide +kernel)
theorem mw_417 : Cond.code yX5_bit cX5_bit 2 (some .int) ∈ ALLW := ALLW_in (k := 417) (by decide +kernel) (by decide +kernel)
theorem mw_625 : Cond.static yX5_bitsOf ∈ ALLW := ALLW_in (k := 625) (by decide +kernel) (by decide +kernel)
theorem mw_626 : Cond.code yX5_bitsOf cX5_bitsOf 10 (some .long) ∈ ALLW := ALLW_in (k := 626) (by decide +kernel) (by decide +kernel)
theorem mw_773 : Cond.static yX5_checkBalanced ∈ ALLW := ALLW_in (k := 773) (by decide +kernel) (by decide +kernel)
theorem mw_774 : Cond.code yX5_checkBalanced cX5_checkBalanced 1 none ∈ ALLW := ALLW_in (k := 774) (by decide +kernel) (by decide +kernel)
theorem mw_743 : Cond.static yX5_checkSegment ∈ ALLW := ALLW_in (k := 743) (by decide +kernel) (by decide +kernel)
theorem mw_744 : Cond.code yX5_checkSegment cX5_checkSegment 1 none ∈ ALLW := ALLW_in (k := 744) (by decide +kernel) (by decide +kernel)
theorem mw_800 : Cond.static yX5_checkSetting ∈ ALLW := ALLW_in (k := 800) (by decide +kernel) (by decide +kernel)
theorem mw_801 : Cond.code yX5_checkSetting cX5_checkSetting 1 none ∈ ALLW := ALLW_in (k := 801) (by decide +kernel) (by decide +kernel)
theorem mw_639 : Cond.static yX5_checkSlot ∈ ALLW := ALLW_in (k := 639) (by decide +kernel) (by decide +kernel)
theorem mw_640 : Cond.code yX5_checkSlot cX5_checkSlot 1 none ∈ ALLW := ALLW_in (k := 640) (by decide +kernel) (by decide +kernel)
theorem mw_858 : Cond.static yX5_checkSnapshot ∈ ALLW := ALLW_in (k := 858) (by decide +kernel) (by decide +kernel)
theorem mw_859 : Cond.code yX5_checkSnapshot cX5_checkSnapshot 1 none ∈ ALLW := ALLW_in (k := 859) (by decide +kernel) (by decide +kernel)
theorem mw_761 : Cond.static yX5_checkTime ∈ ALLW := ALLW_in (k := 761) (by decide +kernel) (by decide +kernel)
theorem mw_762 : Cond.code yX5_checkTime cX5_checkTime 1 none ∈ ALLW := ALLW_in (k := 762) (by decide +kernel) (by decide +kernel)
theorem mw_885 : Cond.static yX5_checkWhat ∈ ALLW := ALLW_in (k := 885) (by decide +kernel) (by decide +kernel)
theorem mw_886 : Cond.code yX5_checkWhat cX5_checkWhat 2 none ∈ ALLW := ALLW_in (k := 886) (by decide +kernel) (by decide +kernel)
theorem mw_463 : Cond.static yX5_codeOf ∈ ALLW := ALLW_in (k := 463) (by decide +kernel) (by decide +kernel)
theorem mw_464 : Cond.code yX5_codeOf cX5_codeOf 1 (some .char) ∈ ALLW := ALLW_in (k := 464) (by decide +kernel) (by decide +kernel)
theorem mw_821 : Cond.instanceMethod yX5_fadeAndLight ∈ ALLW := ALLW_in (k := 821) (by decide +kernel) (by decide +kernel)
theorem mw_22 : Cond.selects RX5 yX5_fadeAndLight yX5_fadeAndLight ∈ ALLW := ALLW_in (k := 22) (by decide +kernel) (by decide +kernel)
theorem mw_822 : Cond.code yX5_fadeAndLight cX5_fadeAndLight 5 none ∈ ALLW := ALLW_in (k := 822) (by decide +kernel) (by decide +kernel)
theorem mw_558 : Cond.instanceMethod yX5_flicker ∈ ALLW := ALLW_in (k := 558) (by decide +kernel) (by decide +kernel)
theorem mw_8 : Cond.selects RX5 yX5_flicker yX5_flicker ∈ ALLW := ALLW_in (k := 8) (by decide +kernel) (by decide +kernel)
theorem mw_559 : Cond.code yX5_flicker cX5_flicker 6 (some .int) ∈ ALLW := ALLW_in (k := 559) (by decide +kernel) (by decide +kernel)
theorem mw_562 : Cond.instanceMethod yX5_hashWithSlot ∈ ALLW := ALLW_in (k := 562) (by decide +kernel) (by decide +kernel)
theorem mw_9 : Cond.selects RX5 yX5_hashWithSlot yX5_hashWithSlot ∈ ALLW := ALLW_in (k := 9) (by decide +kernel) (by decide +kernel)
theorem mw_563 : Cond.code yX5_hashWithSlot cX5_hashWithSlot 8 (some .long) ∈ ALLW := ALLW_in (k := 563) (by decide +kernel) (by decide +kernel)
theorem mw_606 : Cond.instanceMethod yX5_leastHurt ∈ ALLW := ALLW_in (k := 606) (by decide +kernel) (by decide +kernel)
theorem mw_18 : Cond.selects RX5 yX5_leastHurt yX5_leastHurt ∈ ALLW := ALLW_in (k := 18) (by decide +kernel) (by decide +kernel)
theorem mw_607 : Cond.code yX5_leastHurt cX5_leastHurt 7 (some .int) ∈ ALLW := ALLW_in (k := 607) (by decide +kernel) (by decide +kernel)
theorem mw_539 : Cond.instanceMethod yX5_lightBySlots ∈ ALLW := ALLW_in (k := 539) (by decide +kernel) (by decide +kernel)
theorem mw_4 : Cond.selects RX5 yX5_lightBySlots yX5_lightBySlots ∈ ALLW := ALLW_in (k := 4) (by decide +kernel) (by decide +kernel)
theorem mw_540 : Cond.code yX5_lightBySlots cX5_lightBySlots 3 (some .int) ∈ ALLW := ALLW_in (k := 540) (by decide +kernel) (by decide +kernel)
theorem mw_529 : Cond.instanceMethod yX5_lightByTicks ∈ ALLW := ALLW_in (k := 529) (by decide +kernel) (by decide +kernel)
theorem mw_2 : Cond.selects RX5 yX5_lightByTicks yX5_lightByTicks ∈ ALLW := ALLW_in (k := 2) (by decide +kernel) (by decide +kernel)
theorem mw_530 : Cond.code yX5_lightByTicks cX5_lightByTicks 5 (some .int) ∈ ALLW := ALLW_in (k := 530) (by decide +kernel) (by decide +kernel)
theorem mw_533 : Cond.instanceMethod yX5_lightInTick ∈ ALLW := ALLW_in (k := 533) (by decide +kernel) (by decide +kernel)
theorem mw_3 : Cond.selects RX5 yX5_lightInTick yX5_lightInTick ∈ ALLW := ALLW_in (k := 3) (by decide +kernel) (by decide +kernel)
theorem mw_534 : Cond.code yX5_lightInTick cX5_lightInTick 3 (some .int) ∈ ALLW := ALLW_in (k := 534) (by decide +kernel) (by decide +kernel)
theorem mw_493 : Cond.instanceMethod yX5_litShare ∈ ALLW := ALLW_in (k := 493) (by decide +kernel) (by decide +kernel)
theorem mw_494 : Cond.selects RX5 yX5_litShare yX5_litShare ∈ ALLW := ALLW_in (k := 494) (by decide +kernel) (by decide +kernel)
theorem mw_495 : Cond.code yX5_litShare cX5_litShare 2 (some .double) ∈ ALLW := ALLW_in (k := 495) (by decide +kernel) (by decide +kernel)
theorem mw_584 : Cond.instanceMethod yX5_lowestAlike ∈ ALLW := ALLW_in (k := 584) (by decide +kernel) (by decide +kernel)
theorem mw_14 : Cond.selects RX5 yX5_lowestAlike yX5_lowestAlike ∈ ALLW := ALLW_in (k := 14) (by decide +kernel) (by decide +kernel)
theorem mw_585 : Cond.code yX5_lowestAlike cX5_lowestAlike 5 (some .int) ∈ ALLW := ALLW_in (k := 585) (by decide +kernel) (by decide +kernel)
theorem mw_411 : Cond.static yX5_maskOf ∈ ALLW := ALLW_in (k := 411) (by decide +kernel) (by decide +kernel)
theorem mw_412 : Cond.code yX5_maskOf cX5_maskOf 1 (some .int) ∈ ALLW := ALLW_in (k := 412) (by decide +kernel) (by decide +kernel)
theorem mw_502 : Cond.instanceMethod yX5_meanBrightness ∈ ALLW := ALLW_in (k := 502) (by decide +kernel) (by decide +kernel)
theorem mw_503 : Cond.selects RX5 yX5_meanBrightness yX5_meanBrightness ∈ ALLW := ALLW_in (k := 503) (by decide +kernel) (by decide +kernel)
theorem mw_504 : Cond.code yX5_meanBrightness cX5_meanBrightness 4 (some .float) ∈ ALLW := ALLW_in (k := 504) (by decide +kernel) (by decide +kernel)
theorem mw_610 : Cond.instanceMethod yX5_meanIfTimed ∈ ALLW := ALLW_in (k := 610) (by decide +kernel) (by decide +kernel)
theorem mw_19 : Cond.selects RX5 yX5_meanIfTimed yX5_meanIfTimed ∈ ALLW := ALLW_in (k := 19) (by decide +kernel) (by decide +kernel)
theorem mw_611 : Cond.code yX5_meanIfTimed cX5_meanIfTimed 3 (some .int) ∈ ALLW := ALLW_in (k := 611) (by decide +kernel) (by decide +kernel)
theorem mw_521 : Cond.instanceMethod yX5_number ∈ ALLW := ALLW_in (k := 521) (by decide +kernel) (by decide +kernel)
theorem mw_1 : Cond.selects RX5 yX5_number yX5_number ∈ ALLW := ALLW_in (k := 1) (by decide +kernel) (by decide +kernel)
theorem mw_522 : Cond.code yX5_number cX5_number 2 (some .int) ∈ ALLW := ALLW_in (k := 522) (by decide +kernel) (by decide +kernel)
theorem mw_570 : Cond.instanceMethod yX5_readRight ∈ ALLW := ALLW_in (k := 570) (by decide +kernel) (by decide +kernel)
theorem mw_11 : Cond.selects RX5 yX5_readRight yX5_readRight ∈ ALLW := ALLW_in (k := 11) (by decide +kernel) (by decide +kernel)
theorem mw_571 : Cond.code yX5_readRight cX5_readRight 2 (some .boolean) ∈ ALLW := ALLW_in (k := 571) (by decide +kernel) (by decide +kernel)
theorem mw_726 : Cond.instanceMethod yX5_saveState ∈ ALLW := ALLW_in (k := 726) (by decide +kernel) (by decide +kernel)
theorem mw_21 : Cond.selects RX5 yX5_saveState yX5_saveState ∈ ALLW := ALLW_in (k := 21) (by decide +kernel) (by decide +kernel)
theorem mw_727 : Cond.code yX5_saveState cX5_saveState 1 none ∈ ALLW := ALLW_in (k := 727) (by decide +kernel) (by decide +kernel)
theorem mw_574 : Cond.instanceMethod yX5_segmentProperty ∈ ALLW := ALLW_in (k := 574) (by decide +kernel) (by decide +kernel)
theorem mw_12 : Cond.selects RX5 yX5_segmentProperty yX5_segmentProperty ∈ ALLW := ALLW_in (k := 12) (by decide +kernel) (by decide +kernel)
theorem mw_575 : Cond.code yX5_segmentProperty cX5_segmentProperty 5 (some .int) ∈ ALLW := ALLW_in (k := 575) (by decide +kernel) (by decide +kernel)
theorem mw_566 : Cond.instanceMethod yX5_slotProperty ∈ ALLW := ALLW_in (k := 566) (by decide +kernel) (by decide +kernel)
theorem mw_10 : Cond.selects RX5 yX5_slotProperty yX5_slotProperty ∈ ALLW := ALLW_in (k := 10) (by decide +kernel) (by decide +kernel)
theorem mw_567 : Cond.code yX5_slotProperty cX5_slotProperty 3 (some .int) ∈ ALLW := ALLW_in (k := 567) (by decide +kernel) (by decide +kernel)
theorem mw_547 : Cond.instanceMethod yX5_slotsReadAsTheirSigns ∈ ALLW := ALLW_in (k := 547) (by decide +kernel) (by decide +kernel)
theorem mw_6 : Cond.selects RX5 yX5_slotsReadAsTheirSigns yX5_slotsReadAsTheirSigns ∈ ALLW := ALLW_in (k := 6) (by decide +kernel) (by decide +kernel)
theorem mw_548 : Cond.code yX5_slotsReadAsTheirSigns cX5_slotsReadAsTheirSigns 3 (some .int) ∈ ALLW := ALLW_in (k := 548) (by decide +kernel) (by decide +kernel)
theorem mw_588 : Cond.instanceMethod yX5_timeIfBalanced ∈ ALLW := ALLW_in (k := 588) (by decide +kernel) (by decide +kernel)
theorem mw_15 : Cond.selects RX5 yX5_timeIfBalanced yX5_timeIfBalanced ∈ ALLW := ALLW_in (k := 15) (by decide +kernel) (by decide +kernel)
theorem mw_589 : Cond.code yX5_timeIfBalanced cX5_timeIfBalanced 4 (some .int) ∈ ALLW := ALLW_in (k := 589) (by decide +kernel) (by decide +kernel)
theorem mw_551 : Cond.instanceMethod yX5_unevenness ∈ ALLW := ALLW_in (k := 551) (by decide +kernel) (by decide +kernel)
theorem mw_7 : Cond.selects RX5 yX5_unevenness yX5_unevenness ∈ ALLW := ALLW_in (k := 7) (by decide +kernel) (by decide +kernel)
theorem mw_552 : Cond.code yX5_unevenness cX5_unevenness 5 (some .int) ∈ ALLW := ALLW_in (k := 552) (by decide +kernel) (by decide +kernel)
theorem mw_543 : Cond.instanceMethod yX5_workingSlots ∈ ALLW := ALLW_in (k := 543) (by decide +kernel) (by decide +kernel)
theorem mw_5 : Cond.selects RX5 yX5_workingSlots yX5_workingSlots ∈ ALLW := ALLW_in (k := 5) (by decide +kernel) (by decide +kernel)
theorem mw_544 : Cond.code yX5_workingSlots cX5_workingSlots 3 (some .int) ∈ ALLW := ALLW_in (k := 544) (by decide +kernel) (by decide +kernel)
theorem mw_1229 : Cond.instanceMethod yX6_allLight ∈ ALLW := ALLW_in (k := 1229) (by decide +kernel) (by decide +kernel)
theorem mw_54 : Cond.selects RX6 yX6_allLight yX6_allLight ∈ ALLW := ALLW_in (k := 54) (by decide +kernel) (by decide +kernel)
theorem mw_73 : Cond.initialized RX6 ∈ ALLW := ALLW_in (k := 73) (by decide +kernel) (by decide +kernel)
theorem mw_1230 : Cond.code yX6_allLight cX6_allLight 3 (some .int) ∈ ALLW := ALLW_in (k := 1230) (by decide +kernel) (by decide +kernel)
theorem mw_1237 : Cond.instanceMethod yX6_apart ∈ ALLW := ALLW_in (k := 1237) (by decide +kernel) (by decide +kernel)
theorem mw_56 : Cond.selects RX6 yX6_apart yX6_apart ∈ ALLW := ALLW_in (k := 56) (by decide +kernel) (by decide +kernel)
theorem mw_1238 : Cond.code yX6_apart cX6_apart 5 (some .int) ∈ ALLW := ALLW_in (k := 1238) (by decide +kernel) (by decide +kernel)
theorem mw_1269 : Cond.instanceMethod yX6_balanced ∈ ALLW := ALLW_in (k := 1269) (by decide +kernel) (by decide +kernel)
theorem mw_60 : Cond.selects RX6 yX6_balanced yX6_balanced ∈ ALLW := ALLW_in (k := 60) (by decide +kernel) (by decide +kernel)
theorem mw_1270 : Cond.code yX6_balanced cX6_balanced 3 (some .int) ∈ ALLW := ALLW_in (k := 1270) (by decide +kernel) (by decide +kernel)
theorem mw_1174 : Cond.instanceMethod yX6_brightness ∈ ALLW := ALLW_in (k := 1174) (by decide +kernel) (by decide +kernel)
theorem mw_47 : Cond.selects RX6 yX6_brightness yX6_brightness ∈ ALLW := ALLW_in (k := 47) (by decide +kernel) (by decide +kernel)
theorem mw_1175 : Cond.code yX6_brightness cX6_brightness 4 (some .int) ∈ ALLW := ALLW_in (k := 1175) (by decide +kernel) (by decide +kernel)
theorem mw_1099 : Cond.instanceMethod yX6_copiesGlows ∈ ALLW := ALLW_in (k := 1099) (by decide +kernel) (by decide +kernel)
theorem mw_34 : Cond.selects RX6 yX6_copiesGlows yX6_copiesGlows ∈ ALLW := ALLW_in (k := 34) (by decide +kernel) (by decide +kernel)
theorem mw_1100 : Cond.code yX6_copiesGlows cX6_copiesGlows 2 none ∈ ALLW := ALLW_in (k := 1100) (by decide +kernel) (by decide +kernel)
theorem mw_1253 : Cond.instanceMethod yX6_could ∈ ALLW := ALLW_in (k := 1253) (by decide +kernel) (by decide +kernel)
theorem mw_58 : Cond.selects RX6 yX6_could yX6_could ∈ ALLW := ALLW_in (k := 58) (by decide +kernel) (by decide +kernel)
theorem mw_1254 : Cond.code yX6_could cX6_could 8 (some .int) ∈ ALLW := ALLW_in (k := 1254) (by decide +kernel) (by decide +kernel)
theorem mw_1021 : Cond.instanceMethod yX6_fails ∈ ALLW := ALLW_in (k := 1021) (by decide +kernel) (by decide +kernel)
theorem mw_24 : Cond.selects RX6 yX6_fails yX6_fails ∈ ALLW := ALLW_in (k := 24) (by decide +kernel) (by decide +kernel)
theorem mw_1022 : Cond.code yX6_fails cX6_fails 2 (some .int) ∈ ALLW := ALLW_in (k := 1022) (by decide +kernel) (by decide +kernel)
theorem mw_1241 : Cond.instanceMethod yX6_flicker ∈ ALLW := ALLW_in (k := 1241) (by decide +kernel) (by decide +kernel)
theorem mw_57 : Cond.selects RX6 yX6_flicker yX6_flicker ∈ ALLW := ALLW_in (k := 57) (by decide +kernel) (by decide +kernel)
theorem mw_1242 : Cond.code yX6_flicker cX6_flicker 4 (some .int) ∈ ALLW := ALLW_in (k := 1242) (by decide +kernel) (by decide +kernel)
theorem mw_1071 : Cond.instanceMethod yX6_gives ∈ ALLW := ALLW_in (k := 1071) (by decide +kernel) (by decide +kernel)
theorem mw_30 : Cond.selects RX6 yX6_gives yX6_gives ∈ ALLW := ALLW_in (k := 30) (by decide +kernel) (by decide +kernel)
theorem mw_1072 : Cond.code yX6_gives cX6_gives 4 (some .int) ∈ ALLW := ALLW_in (k := 1072) (by decide +kernel) (by decide +kernel)
theorem mw_1302 : Cond.instanceMethod yX6_hashes ∈ ALLW := ALLW_in (k := 1302) (by decide +kernel) (by decide +kernel)
theorem mw_64 : Cond.selects RX6 yX6_hashes yX6_hashes ∈ ALLW := ALLW_in (k := 64) (by decide +kernel) (by decide +kernel)
theorem mw_1303 : Cond.code yX6_hashes cX6_hashes 3 none ∈ ALLW := ALLW_in (k := 1303) (by decide +kernel) (by decide +kernel)
theorem mw_1307 : Cond.instanceMethod yX6_hashesSlot ∈ ALLW := ALLW_in (k := 1307) (by decide +kernel) (by decide +kernel)
theorem mw_65 : Cond.selects RX6 yX6_hashesSlot yX6_hashesSlot ∈ ALLW := ALLW_in (k := 65) (by decide +kernel) (by decide +kernel)
theorem mw_1308 : Cond.code yX6_hashesSlot cX6_hashesSlot 3 none ∈ ALLW := ALLW_in (k := 1308) (by decide +kernel) (by decide +kernel)
theorem mw_1017 : Cond.static yX6_in ∈ ALLW := ALLW_in (k := 1017) (by decide +kernel) (by decide +kernel)
theorem mw_1018 : Cond.code yX6_in cX6_in 3 (some .boolean) ∈ ALLW := ALLW_in (k := 1018) (by decide +kernel) (by decide +kernel)
theorem mw_1201 : Cond.instanceMethod yX6_isReadWell ∈ ALLW := ALLW_in (k := 1201) (by decide +kernel) (by decide +kernel)
theorem mw_49 : Cond.selects RX6 yX6_isReadWell yX6_isReadWell ∈ ALLW := ALLW_in (k := 49) (by decide +kernel) (by decide +kernel)
theorem mw_1202 : Cond.code yX6_isReadWell cX6_isReadWell 3 (some .boolean) ∈ ALLW := ALLW_in (k := 1202) (by decide +kernel) (by decide +kernel)
theorem mw_1040 : Cond.static yX6_isSegment ∈ ALLW := ALLW_in (k := 1040) (by decide +kernel) (by decide +kernel)
theorem mw_1041 : Cond.code yX6_isSegment cX6_isSegment 1 (some .boolean) ∈ ALLW := ALLW_in (k := 1041) (by decide +kernel) (by decide +kernel)
theorem mw_1014 : Cond.static yX6_isSlot ∈ ALLW := ALLW_in (k := 1014) (by decide +kernel) (by decide +kernel)
theorem mw_1015 : Cond.code yX6_isSlot cX6_isSlot 1 (some .boolean) ∈ ALLW := ALLW_in (k := 1015) (by decide +kernel) (by decide +kernel)
theorem mw_945 : Cond.instanceMethod yX6_lay ∈ ALLW := ALLW_in (k := 945) (by decide +kernel) (by decide +kernel)
theorem mw_23 : Cond.selects RX6 yX6_lay yX6_lay ∈ ALLW := ALLW_in (k := 23) (by decide +kernel) (by decide +kernel)
theorem mw_946 : Cond.code yX6_lay cX6_lay 4 none ∈ ALLW := ALLW_in (k := 946) (by decide +kernel) (by decide +kernel)
theorem mw_1123 : Cond.instanceMethod yX6_left ∈ ALLW := ALLW_in (k := 1123) (by decide +kernel) (by decide +kernel)
theorem mw_40 : Cond.selects RX6 yX6_left yX6_left ∈ ALLW := ALLW_in (k := 40) (by decide +kernel) (by decide +kernel)
theorem mw_1124 : Cond.code yX6_left cX6_left 3 (some .int) ∈ ALLW := ALLW_in (k := 1124) (by decide +kernel) (by decide +kernel)
theorem mw_1094 : Cond.instanceMethod yX6_lengthOf ∈ ALLW := ALLW_in (k := 1094) (by decide +kernel) (by decide +kernel)
theorem mw_33 : Cond.selects RX6 yX6_lengthOf yX6_lengthOf ∈ ALLW := ALLW_in (k := 33) (by decide +kernel) (by decide +kernel)
theorem mw_1095 : Cond.code yX6_lengthOf cX6_lengthOf 2 (some .int) ∈ ALLW := ALLW_in (k := 1095) (by decide +kernel) (by decide +kernel)
theorem mw_1147 : Cond.instanceMethod yX6_letter ∈ ALLW := ALLW_in (k := 1147) (by decide +kernel) (by decide +kernel)
theorem mw_43 : Cond.selects RX6 yX6_letter yX6_letter ∈ ALLW := ALLW_in (k := 43) (by decide +kernel) (by decide +kernel)
theorem mw_1148 : Cond.code yX6_letter cX6_letter 1 (some .int) ∈ ALLW := ALLW_in (k := 1148) (by decide +kernel) (by decide +kernel)
theorem mw_1177 : Cond.static yX6_letterOf ∈ ALLW := ALLW_in (k := 1177) (by decide +kernel) (by decide +kernel)
theorem mw_1178 : Cond.code yX6_letterOf cX6_letterOf 1 (some .int) ∈ ALLW := ALLW_in (k := 1178) (by decide +kernel) (by decide +kernel)
theorem mw_1115 : Cond.instanceMethod yX6_light ∈ ALLW := ALLW_in (k := 1115) (by decide +kernel) (by decide +kernel)
theorem mw_38 : Cond.selects RX6 yX6_light yX6_light ∈ ALLW := ALLW_in (k := 38) (by decide +kernel) (by decide +kernel)
theorem mw_1116 : Cond.code yX6_light cX6_light 3 (some .int) ∈ ALLW := ALLW_in (k := 1116) (by decide +kernel) (by decide +kernel)
theorem mw_1111 : Cond.instanceMethod yX6_lightOf ∈ ALLW := ALLW_in (k := 1111) (by decide +kernel) (by decide +kernel)
theorem mw_37 : Cond.selects RX6 yX6_lightOf yX6_lightOf ∈ ALLW := ALLW_in (k := 37) (by decide +kernel) (by decide +kernel)
theorem mw_1112 : Cond.code yX6_lightOf cX6_lightOf 8 (some .int) ∈ ALLW := ALLW_in (k := 1112) (by decide +kernel) (by decide +kernel)
theorem mw_1285 : Cond.instanceMethod yX6_lit ∈ ALLW := ALLW_in (k := 1285) (by decide +kernel) (by decide +kernel)
theorem mw_62 : Cond.selects RX6 yX6_lit yX6_lit ∈ ALLW := ALLW_in (k := 62) (by decide +kernel) (by decide +kernel)
theorem mw_1286 : Cond.code yX6_lit cX6_lit 3 (some .double) ∈ ALLW := ALLW_in (k := 1286) (by decide +kernel) (by decide +kernel)
theorem mw_1293 : Cond.instanceMethod yX6_mean ∈ ALLW := ALLW_in (k := 1293) (by decide +kernel) (by decide +kernel)
theorem mw_63 : Cond.selects RX6 yX6_mean yX6_mean ∈ ALLW := ALLW_in (k := 63) (by decide +kernel) (by decide +kernel)
theorem mw_1294 : Cond.code yX6_mean cX6_mean 3 (some .float) ∈ ALLW := ALLW_in (k := 1294) (by decide +kernel) (by decide +kernel)
theorem mw_1205 : Cond.instanceMethod yX6_meanOf ∈ ALLW := ALLW_in (k := 1205) (by decide +kernel) (by decide +kernel)
theorem mw_50 : Cond.selects RX6 yX6_meanOf yX6_meanOf ∈ ALLW := ALLW_in (k := 50) (by decide +kernel) (by decide +kernel)
theorem mw_1206 : Cond.code yX6_meanOf cX6_meanOf 5 (some .int) ∈ ALLW := ALLW_in (k := 1206) (by decide +kernel) (by decide +kernel)
theorem mw_1075 : Cond.instanceMethod yX6_neediest ∈ ALLW := ALLW_in (k := 1075) (by decide +kernel) (by decide +kernel)
theorem mw_31 : Cond.selects RX6 yX6_neediest yX6_neediest ∈ ALLW := ALLW_in (k := 31) (by decide +kernel) (by decide +kernel)
theorem mw_1076 : Cond.code yX6_neediest cX6_neediest 5 (some .int) ∈ ALLW := ALLW_in (k := 1076) (by decide +kernel) (by decide +kernel)
theorem mw_1225 : Cond.instanceMethod yX6_nextLit ∈ ALLW := ALLW_in (k := 1225) (by decide +kernel) (by decide +kernel)
theorem mw_53 : Cond.selects RX6 yX6_nextLit yX6_nextLit ∈ ALLW := ALLW_in (k := 53) (by decide +kernel) (by decide +kernel)
theorem mw_1226 : Cond.code yX6_nextLit cX6_nextLit 2 (some .int) ∈ ALLW := ALLW_in (k := 1226) (by decide +kernel) (by decide +kernel)
theorem mw_1029 : Cond.instanceMethod yX6_of ∈ ALLW := ALLW_in (k := 1029) (by decide +kernel) (by decide +kernel)
theorem mw_26 : Cond.selects RX6 yX6_of yX6_of ∈ ALLW := ALLW_in (k := 26) (by decide +kernel) (by decide +kernel)
theorem mw_1030 : Cond.code yX6_of cX6_of 3 (some .int) ∈ ALLW := ALLW_in (k := 1030) (by decide +kernel) (by decide +kernel)
theorem mw_1078 : Cond.static yX6_ones ∈ ALLW := ALLW_in (k := 1078) (by decide +kernel) (by decide +kernel)
theorem mw_1079 : Cond.code yX6_ones cX6_ones 3 (some .int) ∈ ALLW := ALLW_in (k := 1079) (by decide +kernel) (by decide +kernel)
theorem mw_1166 : Cond.instanceMethod yX6_readOf ∈ ALLW := ALLW_in (k := 1166) (by decide +kernel) (by decide +kernel)
theorem mw_45 : Cond.selects RX6 yX6_readOf yX6_readOf ∈ ALLW := ALLW_in (k := 45) (by decide +kernel) (by decide +kernel)
theorem mw_1167 : Cond.code yX6_readOf cX6_readOf 4 (some .int) ∈ ALLW := ALLW_in (k := 1167) (by decide +kernel) (by decide +kernel)
theorem mw_1233 : Cond.instanceMethod yX6_readWell ∈ ALLW := ALLW_in (k := 1233) (by decide +kernel) (by decide +kernel)
theorem mw_55 : Cond.selects RX6 yX6_readWell yX6_readWell ∈ ALLW := ALLW_in (k := 55) (by decide +kernel) (by decide +kernel)
theorem mw_1234 : Cond.code yX6_readWell cX6_readWell 3 (some .int) ∈ ALLW := ALLW_in (k := 1234) (by decide +kernel) (by decide +kernel)
theorem mw_1139 : Cond.instanceMethod yX6_readsAll ∈ ALLW := ALLW_in (k := 1139) (by decide +kernel) (by decide +kernel)
theorem mw_41 : Cond.selects RX6 yX6_readsAll yX6_readsAll ∈ ALLW := ALLW_in (k := 41) (by decide +kernel) (by decide +kernel)
theorem mw_1140 : Cond.code yX6_readsAll cX6_readsAll 1 none ∈ ALLW := ALLW_in (k := 1140) (by decide +kernel) (by decide +kernel)
theorem mw_1143 : Cond.instanceMethod yX6_readsSign ∈ ALLW := ALLW_in (k := 1143) (by decide +kernel) (by decide +kernel)
theorem mw_42 : Cond.selects RX6 yX6_readsSign yX6_readsSign ∈ ALLW := ALLW_in (k := 42) (by decide +kernel) (by decide +kernel)
theorem mw_1144 : Cond.code yX6_readsSign cX6_readsSign 2 none ∈ ALLW := ALLW_in (k := 1144) (by decide +kernel) (by decide +kernel)
theorem mw_1090 : Cond.instanceMethod yX6_roundTicks ∈ ALLW := ALLW_in (k := 1090) (by decide +kernel) (by decide +kernel)
theorem mw_32 : Cond.selects RX6 yX6_roundTicks yX6_roundTicks ∈ ALLW := ALLW_in (k := 32) (by decide +kernel) (by decide +kernel)
theorem mw_1091 : Cond.code yX6_roundTicks cX6_roundTicks 3 (some .int) ∈ ALLW := ALLW_in (k := 1091) (by decide +kernel) (by decide +kernel)
theorem mw_1277 : Cond.instanceMethod yX6_safestSign ∈ ALLW := ALLW_in (k := 1277) (by decide +kernel) (by decide +kernel)
theorem mw_61 : Cond.selects RX6 yX6_safestSign yX6_safestSign ∈ ALLW := ALLW_in (k := 61) (by decide +kernel) (by decide +kernel)
theorem mw_1278 : Cond.code yX6_safestSign cX6_safestSign 8 (some .int) ∈ ALLW := ALLW_in (k := 1278) (by decide +kernel) (by decide +kernel)
theorem mw_1025 : Cond.instanceMethod yX6_saves ∈ ALLW := ALLW_in (k := 1025) (by decide +kernel) (by decide +kernel)
theorem mw_25 : Cond.selects RX6 yX6_saves yX6_saves ∈ ALLW := ALLW_in (k := 25) (by decide +kernel) (by decide +kernel)
theorem mw_1026 : Cond.code yX6_saves cX6_saves 2 none ∈ ALLW := ALLW_in (k := 1026) (by decide +kernel) (by decide +kernel)
theorem mw_1170 : Cond.instanceMethod yX6_seenOf ∈ ALLW := ALLW_in (k := 1170) (by decide +kernel) (by decide +kernel)
theorem mw_46 : Cond.selects RX6 yX6_seenOf yX6_seenOf ∈ ALLW := ALLW_in (k := 46) (by decide +kernel) (by decide +kernel)
theorem mw_1171 : Cond.code yX6_seenOf cX6_seenOf 4 (some .int) ∈ ALLW := ALLW_in (k := 1171) (by decide +kernel) (by decide +kernel)
theorem mw_1063 : Cond.static yX6_segmentsOf ∈ ALLW := ALLW_in (k := 1063) (by decide +kernel) (by decide +kernel)
theorem mw_1064 : Cond.code yX6_segmentsOf cX6_segmentsOf 1 (some .int) ∈ ALLW := ALLW_in (k := 1064) (by decide +kernel) (by decide +kernel)
theorem mw_1150 : Cond.static yX6_signOf ∈ ALLW := ALLW_in (k := 1150) (by decide +kernel) (by decide +kernel)
theorem mw_1151 : Cond.code yX6_signOf cX6_signOf 1 (some .int) ∈ ALLW := ALLW_in (k := 1151) (by decide +kernel) (by decide +kernel)
theorem mw_1119 : Cond.instanceMethod yX6_slotAhead ∈ ALLW := ALLW_in (k := 1119) (by decide +kernel) (by decide +kernel)
theorem mw_39 : Cond.selects RX6 yX6_slotAhead yX6_slotAhead ∈ ALLW := ALLW_in (k := 39) (by decide +kernel) (by decide +kernel)
theorem mw_1120 : Cond.code yX6_slotAhead cX6_slotAhead 3 (some .int) ∈ ALLW := ALLW_in (k := 1120) (by decide +kernel) (by decide +kernel)
theorem mw_1107 : Cond.instanceMethod yX6_slotAt ∈ ALLW := ALLW_in (k := 1107) (by decide +kernel) (by decide +kernel)
theorem mw_36 : Cond.selects RX6 yX6_slotAt yX6_slotAt ∈ ALLW := ALLW_in (k := 36) (by decide +kernel) (by decide +kernel)
theorem mw_1108 : Cond.code yX6_slotAt cX6_slotAt 4 (some .int) ∈ ALLW := ALLW_in (k := 1108) (by decide +kernel) (by decide +kernel)
theorem mw_1221 : Cond.instanceMethod yX6_tellsCount ∈ ALLW := ALLW_in (k := 1221) (by decide +kernel) (by decide +kernel)
theorem mw_52 : Cond.selects RX6 yX6_tellsCount yX6_tellsCount ∈ ALLW := ALLW_in (k := 52) (by decide +kernel) (by decide +kernel)
theorem mw_1222 : Cond.code yX6_tellsCount cX6_tellsCount 2 (some .int) ∈ ALLW := ALLW_in (k := 1222) (by decide +kernel) (by decide +kernel)
theorem mw_1213 : Cond.instanceMethod yX6_tellsSegment ∈ ALLW := ALLW_in (k := 1213) (by decide +kernel) (by decide +kernel)
theorem mw_51 : Cond.selects RX6 yX6_tellsSegment yX6_tellsSegment ∈ ALLW := ALLW_in (k := 51) (by decide +kernel) (by decide +kernel)
theorem mw_1214 : Cond.code yX6_tellsSegment cX6_tellsSegment 5 (some .int) ∈ ALLW := ALLW_in (k := 1214) (by decide +kernel) (by decide +kernel)
theorem mw_1197 : Cond.instanceMethod yX6_tellsSlot ∈ ALLW := ALLW_in (k := 1197) (by decide +kernel) (by decide +kernel)
theorem mw_48 : Cond.selects RX6 yX6_tellsSlot yX6_tellsSlot ∈ ALLW := ALLW_in (k := 48) (by decide +kernel) (by decide +kernel)
theorem mw_1198 : Cond.code yX6_tellsSlot cX6_tellsSlot 3 (some .int) ∈ ALLW := ALLW_in (k := 1198) (by decide +kernel) (by decide +kernel)
theorem mw_1103 : Cond.instanceMethod yX6_ticks ∈ ALLW := ALLW_in (k := 1103) (by decide +kernel) (by decide +kernel)
theorem mw_35 : Cond.selects RX6 yX6_ticks yX6_ticks ∈ ALLW := ALLW_in (k := 35) (by decide +kernel) (by decide +kernel)
theorem mw_1104 : Cond.code yX6_ticks cX6_ticks 9 none ∈ ALLW := ALLW_in (k := 1104) (by decide +kernel) (by decide +kernel)
theorem mw_1261 : Cond.instanceMethod yX6_timed ∈ ALLW := ALLW_in (k := 1261) (by decide +kernel) (by decide +kernel)
theorem mw_59 : Cond.selects RX6 yX6_timed yX6_timed ∈ ALLW := ALLW_in (k := 59) (by decide +kernel) (by decide +kernel)
theorem mw_1262 : Cond.code yX6_timed cX6_timed 5 (some .int) ∈ ALLW := ALLW_in (k := 1262) (by decide +kernel) (by decide +kernel)
theorem mw_1162 : Cond.instanceMethod yX6_views ∈ ALLW := ALLW_in (k := 1162) (by decide +kernel) (by decide +kernel)
theorem mw_44 : Cond.selects RX6 yX6_views yX6_views ∈ ALLW := ALLW_in (k := 44) (by decide +kernel) (by decide +kernel)
theorem mw_1163 : Cond.code yX6_views cX6_views 5 none ∈ ALLW := ALLW_in (k := 1163) (by decide +kernel) (by decide +kernel)
theorem mw_1067 : Cond.instanceMethod yX6_working ∈ ALLW := ALLW_in (k := 1067) (by decide +kernel) (by decide +kernel)
theorem mw_29 : Cond.selects RX6 yX6_working yX6_working ∈ ALLW := ALLW_in (k := 29) (by decide +kernel) (by decide +kernel)
theorem mw_1068 : Cond.code yX6_working cX6_working 3 (some .int) ∈ ALLW := ALLW_in (k := 1068) (by decide +kernel) (by decide +kernel)
theorem mw_1056 : Cond.instanceMethod yX6_workingSlots ∈ ALLW := ALLW_in (k := 1056) (by decide +kernel) (by decide +kernel)
theorem mw_27 : Cond.selects RX6 yX6_workingSlots yX6_workingSlots ∈ ALLW := ALLW_in (k := 27) (by decide +kernel) (by decide +kernel)
theorem mw_1057 : Cond.code yX6_workingSlots cX6_workingSlots 3 (some .int) ∈ ALLW := ALLW_in (k := 1057) (by decide +kernel) (by decide +kernel)
theorem mw_1060 : Cond.instanceMethod yX6_works ∈ ALLW := ALLW_in (k := 1060) (by decide +kernel) (by decide +kernel)
theorem mw_28 : Cond.selects RX6 yX6_works yX6_works ∈ ALLW := ALLW_in (k := 28) (by decide +kernel) (by decide +kernel)
theorem mw_1061 : Cond.code yX6_works cX6_works 2 (some .int) ∈ ALLW := ALLW_in (k := 1061) (by decide +kernel) (by decide +kernel)
theorem ko_J0_charAt_5068e : yJ0_charAt_5068e.cls ≠ "java/lang/invoke/MethodHandle" ∧ yJ0_charAt_5068e.cls ≠ "java/lang/invoke/VarHandle" ∧ (parseMethodDescriptor yJ0_charAt_5068e.desc).map (fun d => d.parameters.length) = some 1 := by decide +kernel
theorem kw_J0_charAt_5068e : Cond.instanceMethod yJ0_charAt_5068e ∈ ALLW ∧ Cond.selects RJ0 yJ0_charAt_5068e yJ0_charAt_5068e ∈ ALLW ∧ Cond.initialized RJ0 ∈ ALLW ∧ Cond.code yJ0_charAt_5068e cJ0_charAt_5068e 2 (some .char) ∈ ALLW := ⟨mw_467, mw_468, mw_83, mw_469⟩
theorem ko_J0_checkIndex_df160 : yJ0_checkIndex_df160.cls ≠ "java/lang/invoke/MethodHandle" ∧ yJ0_checkIndex_df160.cls ≠ "java/lang/invoke/VarHandle" ∧ (parseMethodDescriptor yJ0_checkIndex_df160.desc).map (fun d => d.parameters.length) = some 2 := by decide +kernel
theorem kw_J0_checkIndex_df160 : Cond.static yJ0_checkIndex_df160 ∈ ALLW ∧ Cond.initialized RJ0 ∈ ALLW ∧ Cond.code yJ0_checkIndex_df160 cJ0_checkIndex_df160 2 none ∈ ALLW := ⟨mw_474, mw_83, mw_475⟩
theorem ko_J0_coder_7d493 : yJ0_coder_7d493.cls ≠ "java/lang/invoke/MethodHandle" ∧ yJ0_coder_7d493.cls ≠ "java/lang/invoke/VarHandle" ∧ (parseMethodDescriptor yJ0_coder_7d493.desc).map (fun d => d.parameters.length) = some 0 := by decide +kernel
theorem kw_J0_coder_7d493 : Cond.instanceMethod yJ0_coder_7d493 ∈ ALLW ∧ Cond.selects RJ0 yJ0_coder_7d493 yJ0_coder_7d493 ∈ ALLW ∧ Cond.initialized RJ0 ∈ ALLW ∧ Cond.code yJ0_coder_7d493 cJ0_coder_7d493 1 (some .byte) ∈ ALLW := ⟨mw_317, mw_318, mw_83, mw_319⟩
theorem ko_J0_indexOf_0f7a4 : yJ0_indexOf_0f7a4.cls ≠ "java/lang/invoke/MethodHandle" ∧ yJ0_indexOf_0f7a4.cls ≠ "java/lang/invoke/VarHandle" ∧ (parseMethodDescriptor yJ0_indexOf_0f7a4.desc).map (fun d => d.parameters.length) = some 1 := by decide +kernel
theorem kw_J0_indexOf_0f7a4 : Cond.instanceMethod yJ0_indexOf_0f7a4 ∈ ALLW ∧ Cond.selects RJ0 yJ0_indexOf_0f7a4 yJ0_indexOf_0f7a4 ∈ ALLW ∧ Cond.initialized RJ0 ∈ ALLW ∧ Cond.code yJ0_indexOf_0f7a4 cJ0_indexOf_0f7a4 2 (some .int) ∈ ALLW := ⟨mw_299, mw_300, mw_83, mw_301⟩
theorem ko_J0_indexOf_7cf53 : yJ0_indexOf_7cf53.cls ≠ "java/lang/invoke/MethodHandle" ∧ yJ0_indexOf_7cf53.cls ≠ "java/lang/invoke/VarHandle" ∧ (parseMethodDescriptor yJ0_indexOf_7cf53.desc).map (fun d => d.parameters.length) = some 2 := by decide +kernel
theorem kw_J0_indexOf_7cf53 : Cond.instanceMethod yJ0_indexOf_7cf53 ∈ ALLW ∧ Cond.selects RJ0 yJ0_indexOf_7cf53 yJ0_indexOf_7cf53 ∈ ALLW ∧ Cond.initialized RJ0 ∈ ALLW ∧ Cond.code yJ0_indexOf_7cf53 cJ0_indexOf_7cf53 3 (some .int) ∈ ALLW := ⟨mw_303, mw_304, mw_83, mw_305⟩
theorem ko_J0_isLatin1_aae02 : yJ0_isLatin1_aae02.cls ≠ "java/lang/invoke/MethodHandle" ∧ yJ0_isLatin1_aae02.cls ≠ "java/lang/invoke/VarHandle" ∧ (parseMethodDescriptor yJ0_isLatin1_aae02.desc).map (fun d => d.parameters.length) = some 0 := by decide +kernel
theorem kw_J0_isLatin1_aae02 : Cond.instanceMethod yJ0_isLatin1_aae02 ∈ ALLW ∧ Cond.selects RJ0 yJ0_isLatin1_aae02 yJ0_isLatin1_aae02 ∈ ALLW ∧ Cond.initialized RJ0 ∈ ALLW ∧ Cond.code yJ0_isLatin1_aae02 cJ0_isLatin1_aae02 1 (some .boolean) ∈ ALLW := ⟨mw_307, mw_308, mw_83, mw_309⟩
theorem ko_J0_length_8abf5 : yJ0_length_8abf5.cls ≠ "java/lang/invoke/MethodHandle" ∧ yJ0_length_8abf5.cls ≠ "java/lang/invoke/VarHandle" ∧ (parseMethodDescriptor yJ0_length_8abf5.desc).map (fun d => d.parameters.length) = some 0 := by decide +kernel
theorem kw_J0_length_8abf5 : Cond.instanceMethod yJ0_length_8abf5 ∈ ALLW ∧ Cond.selects RJ0 yJ0_length_8abf5 yJ0_length_8abf5 ∈ ALLW ∧ Cond.initialized RJ0 ∈ ALLW ∧ Cond.code yJ0_length_8abf5 cJ0_length_8abf5 1 (some .int) ∈ ALLW := ⟨mw_313, mw_314, mw_83, mw_315⟩
theorem ko_J1_canEncode_9a6ad : yJ1_canEncode_9a6ad.cls ≠ "java/lang/invoke/MethodHandle" ∧ yJ1_canEncode_9a6ad.cls ≠ "java/lang/invoke/VarHandle" ∧ (parseMethodDescriptor yJ1_canEncode_9a6ad.desc).map (fun d => d.parameters.length) = some 1 := by decide +kernel
theorem kw_J1_canEncode_9a6ad : Cond.static yJ1_canEncode_9a6ad ∈ ALLW ∧ Cond.initialized RJ1 ∈ ALLW ∧ Cond.code yJ1_canEncode_9a6ad cJ1_canEncode_9a6ad 1 (some .boolean) ∈ ALLW := ⟨mw_324, mw_84, mw_325⟩
theorem ko_J1_charAt_3b067 : yJ1_charAt_3b067.cls ≠ "java/lang/invoke/MethodHandle" ∧ yJ1_charAt_3b067.cls ≠ "java/lang/invoke/VarHandle" ∧ (parseMethodDescriptor yJ1_charAt_3b067.desc).map (fun d => d.parameters.length) = some 2 := by decide +kernel
theorem kw_J1_charAt_3b067 : Cond.static yJ1_charAt_3b067 ∈ ALLW ∧ Cond.initialized RJ1 ∈ ALLW ∧ Cond.code yJ1_charAt_3b067 cJ1_charAt_3b067 2 (some .char) ∈ ALLW := ⟨mw_471, mw_84, mw_472⟩
theorem ko_J1_indexOfChar_4cfef : yJ1_indexOfChar_4cfef.cls ≠ "java/lang/invoke/MethodHandle" ∧ yJ1_indexOfChar_4cfef.cls ≠ "java/lang/invoke/VarHandle" ∧ (parseMethodDescriptor yJ1_indexOfChar_4cfef.desc).map (fun d => d.parameters.length) = some 4 := by decide +kernel
theorem kw_J1_indexOfChar_4cfef : Cond.static yJ1_indexOfChar_4cfef ∈ ALLW ∧ Cond.initialized RJ1 ∈ ALLW ∧ Cond.code yJ1_indexOfChar_4cfef cJ1_indexOfChar_4cfef 6 (some .int) ∈ ALLW := ⟨mw_333, mw_84, mw_334⟩
theorem ko_J1_indexOf_4cfef : yJ1_indexOf_4cfef.cls ≠ "java/lang/invoke/MethodHandle" ∧ yJ1_indexOf_4cfef.cls ≠ "java/lang/invoke/VarHandle" ∧ (parseMethodDescriptor yJ1_indexOf_4cfef.desc).map (fun d => d.parameters.length) = some 4 := by decide +kernel
theorem kw_J1_indexOf_4cfef : Cond.static yJ1_indexOf_4cfef ∈ ALLW ∧ Cond.initialized RJ1 ∈ ALLW ∧ Cond.code yJ1_indexOf_4cfef cJ1_indexOf_4cfef 4 (some .int) ∈ ALLW := ⟨mw_321, mw_84, mw_322⟩
theorem ko_J3_checkIndex_8e157 : yJ3_checkIndex_8e157.cls ≠ "java/lang/invoke/MethodHandle" ∧ yJ3_checkIndex_8e157.cls ≠ "java/lang/invoke/VarHandle" ∧ (parseMethodDescriptor yJ3_checkIndex_8e157.desc).map (fun d => d.parameters.length) = some 3 := by decide +kernel
theorem kw_J3_checkIndex_8e157 : Cond.static yJ3_checkIndex_8e157 ∈ ALLW ∧ Cond.initialized RJ3 ∈ ALLW ∧ Cond.code yJ3_checkIndex_8e157 cJ3_checkIndex_8e157 3 (some .int) ∈ ALLW := ⟨mw_477, mw_86, mw_478⟩
theorem ko_J6_bitCount_0f7a4 : yJ6_bitCount_0f7a4.cls ≠ "java/lang/invoke/MethodHandle" ∧ yJ6_bitCount_0f7a4.cls ≠ "java/lang/invoke/VarHandle" ∧ (parseMethodDescriptor yJ6_bitCount_0f7a4.desc).map (fun d => d.parameters.length) = some 1 := by decide +kernel
theorem kw_J6_bitCount_0f7a4 : Cond.static yJ6_bitCount_0f7a4 ∈ ALLW ∧ Cond.initialized RJ6 ∈ ALLW ∧ Cond.code yJ6_bitCount_0f7a4 cJ6_bitCount_0f7a4 1 (some .int) ∈ ALLW := ⟨mw_427, mw_81, mw_428⟩
theorem ko_Jxe99ae_doubleToLongBits_ccdee : yJxe99ae_doubleToLongBits_ccdee.cls ≠ "java/lang/invoke/MethodHandle" ∧ yJxe99ae_doubleToLongBits_ccdee.cls ≠ "java/lang/invoke/VarHandle" ∧ (parseMethodDescriptor yJxe99ae_doubleToLongBits_ccdee.desc).map (fun d => d.parameters.length) = some 1 := by decide +kernel
theorem kw_Jxe99ae_doubleToLongBits_ccdee : Cond.static yJxe99ae_doubleToLongBits_ccdee ∈ ALLW ∧ Cond.initialized RJxe99ae ∈ ALLW ∧ Cond.code yJxe99ae_doubleToLongBits_ccdee cJxe99ae_doubleToLongBits_ccdee 2 (some .long) ∈ ALLW := ⟨mw_1310, mw_88, mw_1311⟩
theorem ko_Jxe99ae_isNaN_b9ae7 : yJxe99ae_isNaN_b9ae7.cls ≠ "java/lang/invoke/MethodHandle" ∧ yJxe99ae_isNaN_b9ae7.cls ≠ "java/lang/invoke/VarHandle" ∧ (parseMethodDescriptor yJxe99ae_isNaN_b9ae7.desc).map (fun d => d.parameters.length) = some 1 := by decide +kernel
theorem kw_Jxe99ae_isNaN_b9ae7 : Cond.static yJxe99ae_isNaN_b9ae7 ∈ ALLW ∧ Cond.initialized RJxe99ae ∈ ALLW ∧ Cond.code yJxe99ae_isNaN_b9ae7 cJxe99ae_isNaN_b9ae7 2 (some .boolean) ∈ ALLW := ⟨mw_1313, mw_88, mw_1314⟩
theorem ko_Jxf58ca_floatToIntBits_5c35a : yJxf58ca_floatToIntBits_5c35a.cls ≠ "java/lang/invoke/MethodHandle" ∧ yJxf58ca_floatToIntBits_5c35a.cls ≠ "java/lang/invoke/VarHandle" ∧ (parseMethodDescriptor yJxf58ca_floatToIntBits_5c35a.desc).map (fun d => d.parameters.length) = some 1 := by decide +kernel
theorem kw_Jxf58ca_floatToIntBits_5c35a : Cond.static yJxf58ca_floatToIntBits_5c35a ∈ ALLW ∧ Cond.initialized RJxf58ca ∈ ALLW ∧ Cond.code yJxf58ca_floatToIntBits_5c35a cJxf58ca_floatToIntBits_5c35a 1 (some .int) ∈ ALLW := ⟨mw_1320, mw_89, mw_1321⟩
theorem ko_Jxf58ca_isNaN_12338 : yJxf58ca_isNaN_12338.cls ≠ "java/lang/invoke/MethodHandle" ∧ yJxf58ca_isNaN_12338.cls ≠ "java/lang/invoke/VarHandle" ∧ (parseMethodDescriptor yJxf58ca_isNaN_12338.desc).map (fun d => d.parameters.length) = some 1 := by decide +kernel
theorem kw_Jxf58ca_isNaN_12338 : Cond.static yJxf58ca_isNaN_12338 ∈ ALLW ∧ Cond.initialized RJxf58ca ∈ ALLW ∧ Cond.code yJxf58ca_isNaN_12338 cJxf58ca_isNaN_12338 1 (some .boolean) ∈ ALLW := ⟨mw_1323, mw_89, mw_1324⟩
theorem ko_X0_needier : yX0_needier.cls ≠ "java/lang/invoke/MethodHandle" ∧ yX0_needier.cls ≠ "java/lang/invoke/VarHandle" ∧ (parseMethodDescriptor yX0_needier.desc).map (fun d => d.parameters.length) = some 2 := by decide +kernel
theorem kw_X0_needier : Cond.instanceMethod yX0_needier ∈ ALLW ∧ Cond.selects RX0 yX0_needier yX0_needier ∈ ALLW ∧ Cond.initialized RX0 ∈ ALLW ∧ Cond.code yX0_needier cX0_needier 3 (some .boolean) ∈ ALLW := ⟨mw_602, mw_17, mw_71, mw_603⟩
theorem ko_X0_neediest : yX0_neediest.cls ≠ "java/lang/invoke/MethodHandle" ∧ yX0_neediest.cls ≠ "java/lang/invoke/VarHandle" ∧ (parseMethodDescriptor yX0_neediest.desc).map (fun d => d.parameters.length) = some 0 := by decide +kernel
theorem kw_X0_neediest : Cond.instanceMethod yX0_neediest ∈ ALLW ∧ Cond.selects RX0 yX0_neediest yX0_neediest ∈ ALLW ∧ Cond.initialized RX0 ∈ ALLW ∧ Cond.code yX0_neediest cX0_neediest 4 (some .int) ∈ ALLW := ⟨mw_598, mw_16, mw_71, mw_599⟩
theorem ko_X0_spread : yX0_spread.cls ≠ "java/lang/invoke/MethodHandle" ∧ yX0_spread.cls ≠ "java/lang/invoke/VarHandle" ∧ (parseMethodDescriptor yX0_spread.desc).map (fun d => d.parameters.length) = some 2 := by decide +kernel
theorem kw_X0_spread : Cond.instanceMethod yX0_spread ∈ ALLW ∧ Cond.selects RX0 yX0_spread yX0_spread ∈ ALLW ∧ Cond.initialized RX0 ∈ ALLW ∧ Cond.code yX0_spread cX0_spread 6 (some .int) ∈ ALLW := ⟨mw_591, mw_592, mw_71, mw_593⟩
theorem ko_X1_forget : yX1_forget.cls ≠ "java/lang/invoke/MethodHandle" ∧ yX1_forget.cls ≠ "java/lang/invoke/VarHandle" ∧ (parseMethodDescriptor yX1_forget.desc).map (fun d => d.parameters.length) = some 0 := by decide +kernel
theorem kw_X1_forget : Cond.instanceMethod yX1_forget ∈ ALLW ∧ Cond.selects RX1 yX1_forget yX1_forget ∈ ALLW ∧ Cond.initialized RX1 ∈ ALLW ∧ Cond.code yX1_forget cX1_forget 2 none ∈ ALLW := ⟨mw_620, mw_621, mw_68, mw_622⟩
theorem ko_X1_look : yX1_look.cls ≠ "java/lang/invoke/MethodHandle" ∧ yX1_look.cls ≠ "java/lang/invoke/VarHandle" ∧ (parseMethodDescriptor yX1_look.desc).map (fun d => d.parameters.length) = some 1 := by decide +kernel
theorem kw_X1_look : Cond.instanceMethod yX1_look ∈ ALLW ∧ Cond.selects RX1 yX1_look yX1_look ∈ ALLW ∧ Cond.initialized RX1 ∈ ALLW ∧ Cond.code yX1_look cX1_look 3 none ∈ ALLW := ⟨mw_390, mw_391, mw_68, mw_392⟩
theorem ko_X1_lookAt : yX1_lookAt.cls ≠ "java/lang/invoke/MethodHandle" ∧ yX1_lookAt.cls ≠ "java/lang/invoke/VarHandle" ∧ (parseMethodDescriptor yX1_lookAt.desc).map (fun d => d.parameters.length) = some 2 := by decide +kernel
theorem kw_X1_lookAt : Cond.instanceMethod yX1_lookAt ∈ ALLW ∧ Cond.selects RX1 yX1_lookAt yX1_lookAt ∈ ALLW ∧ Cond.initialized RX1 ∈ ALLW ∧ Cond.code yX1_lookAt cX1_lookAt 11 none ∈ ALLW := ⟨mw_438, mw_0, mw_68, mw_439⟩
theorem ko_X1_mean : yX1_mean.cls ≠ "java/lang/invoke/MethodHandle" ∧ yX1_mean.cls ≠ "java/lang/invoke/VarHandle" ∧ (parseMethodDescriptor yX1_mean.desc).map (fun d => d.parameters.length) = some 1 := by decide +kernel
theorem kw_X1_mean : Cond.instanceMethod yX1_mean ∈ ALLW ∧ Cond.selects RX1 yX1_mean yX1_mean ∈ ALLW ∧ Cond.initialized RX1 ∈ ALLW ∧ Cond.code yX1_mean cX1_mean 6 (some .int) ∈ ALLW := ⟨mw_507, mw_508, mw_68, mw_509⟩
theorem ko_X1_readAs : yX1_readAs.cls ≠ "java/lang/invoke/MethodHandle" ∧ yX1_readAs.cls ≠ "java/lang/invoke/VarHandle" ∧ (parseMethodDescriptor yX1_readAs.desc).map (fun d => d.parameters.length) = some 1 := by decide +kernel
theorem kw_X1_readAs : Cond.instanceMethod yX1_readAs ∈ ALLW ∧ Cond.selects RX1 yX1_readAs yX1_readAs ∈ ALLW ∧ Cond.initialized RX1 ∈ ALLW ∧ Cond.code yX1_readAs cX1_readAs 4 (some .int) ∈ ALLW := ⟨mw_454, mw_455, mw_68, mw_456⟩
theorem ko_X1_seen : yX1_seen.cls ≠ "java/lang/invoke/MethodHandle" ∧ yX1_seen.cls ≠ "java/lang/invoke/VarHandle" ∧ (parseMethodDescriptor yX1_seen.desc).map (fun d => d.parameters.length) = some 1 := by decide +kernel
theorem kw_X1_seen : Cond.instanceMethod yX1_seen ∈ ALLW ∧ Cond.selects RX1 yX1_seen yX1_seen ∈ ALLW ∧ Cond.initialized RX1 ∈ ALLW ∧ Cond.code yX1_seen cX1_seen 4 (some .int) ∈ ALLW := ⟨mw_458, mw_459, mw_68, mw_460⟩
theorem ko_X2_copyFrom : yX2_copyFrom.cls ≠ "java/lang/invoke/MethodHandle" ∧ yX2_copyFrom.cls ≠ "java/lang/invoke/VarHandle" ∧ (parseMethodDescriptor yX2_copyFrom.desc).map (fun d => d.parameters.length) = some 1 := by decide +kernel
theorem kw_X2_copyFrom : Cond.instanceMethod yX2_copyFrom ∈ ALLW ∧ Cond.selects RX2 yX2_copyFrom yX2_copyFrom ∈ ALLW ∧ Cond.initialized RX2 ∈ ALLW ∧ Cond.code yX2_copyFrom cX2_copyFrom 2 none ∈ ALLW := ⟨mw_613, mw_614, mw_69, mw_615⟩
theorem ko_X2_failing : yX2_failing.cls ≠ "java/lang/invoke/MethodHandle" ∧ yX2_failing.cls ≠ "java/lang/invoke/VarHandle" ∧ (parseMethodDescriptor yX2_failing.desc).map (fun d => d.parameters.length) = some 1 := by decide +kernel
theorem kw_X2_failing : Cond.instanceMethod yX2_failing ∈ ALLW ∧ Cond.selects RX2 yX2_failing yX2_failing ∈ ALLW ∧ Cond.initialized RX2 ∈ ALLW ∧ Cond.code yX2_failing cX2_failing 2 (some .int) ∈ ALLW := ⟨mw_419, mw_420, mw_69, mw_421⟩
theorem ko_X2_lightFor : yX2_lightFor.cls ≠ "java/lang/invoke/MethodHandle" ∧ yX2_lightFor.cls ≠ "java/lang/invoke/VarHandle" ∧ (parseMethodDescriptor yX2_lightFor.desc).map (fun d => d.parameters.length) = some 1 := by decide +kernel
theorem kw_X2_lightFor : Cond.instanceMethod yX2_lightFor ∈ ALLW ∧ Cond.selects RX2 yX2_lightFor yX2_lightFor ∈ ALLW ∧ Cond.initialized RX2 ∈ ALLW ∧ Cond.code yX2_lightFor cX2_lightFor 3 (some .int) ∈ ALLW := ⟨mw_423, mw_424, mw_69, mw_425⟩
theorem ko_X2_litAheadOf : yX2_litAheadOf.cls ≠ "java/lang/invoke/MethodHandle" ∧ yX2_litAheadOf.cls ≠ "java/lang/invoke/VarHandle" ∧ (parseMethodDescriptor yX2_litAheadOf.desc).map (fun d => d.parameters.length) = some 1 := by decide +kernel
theorem kw_X2_litAheadOf : Cond.instanceMethod yX2_litAheadOf ∈ ALLW ∧ Cond.selects RX2 yX2_litAheadOf yX2_litAheadOf ∈ ALLW ∧ Cond.initialized RX2 ∈ ALLW ∧ Cond.code yX2_litAheadOf cX2_litAheadOf 4 (some .int) ∈ ALLW := ⟨mw_433, mw_434, mw_69, mw_435⟩
theorem ko_X2_litIn : yX2_litIn.cls ≠ "java/lang/invoke/MethodHandle" ∧ yX2_litIn.cls ≠ "java/lang/invoke/VarHandle" ∧ (parseMethodDescriptor yX2_litIn.desc).map (fun d => d.parameters.length) = some 1 := by decide +kernel
theorem kw_X2_litIn : Cond.instanceMethod yX2_litIn ∈ ALLW ∧ Cond.selects RX2 yX2_litIn yX2_litIn ∈ ALLW ∧ Cond.initialized RX2 ∈ ALLW ∧ Cond.code yX2_litIn cX2_litIn 4 (some .int) ∈ ALLW := ⟨mw_524, mw_525, mw_69, mw_526⟩
theorem ko_X2_litTicks : yX2_litTicks.cls ≠ "java/lang/invoke/MethodHandle" ∧ yX2_litTicks.cls ≠ "java/lang/invoke/VarHandle" ∧ (parseMethodDescriptor yX2_litTicks.desc).map (fun d => d.parameters.length) = some 0 := by decide +kernel
theorem kw_X2_litTicks : Cond.instanceMethod yX2_litTicks ∈ ALLW ∧ Cond.selects RX2 yX2_litTicks yX2_litTicks ∈ ALLW ∧ Cond.initialized RX2 ∈ ALLW ∧ Cond.code yX2_litTicks cX2_litTicks 3 (some .int) ∈ ALLW := ⟨mw_498, mw_499, mw_69, mw_500⟩
theorem ko_X2_roundTicks : yX2_roundTicks.cls ≠ "java/lang/invoke/MethodHandle" ∧ yX2_roundTicks.cls ≠ "java/lang/invoke/VarHandle" ∧ (parseMethodDescriptor yX2_roundTicks.desc).map (fun d => d.parameters.length) = some 0 := by decide +kernel
theorem kw_X2_roundTicks : Cond.instanceMethod yX2_roundTicks ∈ ALLW ∧ Cond.selects RX2 yX2_roundTicks yX2_roundTicks ∈ ALLW ∧ Cond.initialized RX2 ∈ ALLW ∧ Cond.code yX2_roundTicks cX2_roundTicks 3 (some .int) ∈ ALLW := ⟨mw_398, mw_399, mw_69, mw_400⟩
theorem ko_X2_ticksOf : yX2_ticksOf.cls ≠ "java/lang/invoke/MethodHandle" ∧ yX2_ticksOf.cls ≠ "java/lang/invoke/VarHandle" ∧ (parseMethodDescriptor yX2_ticksOf.desc).map (fun d => d.parameters.length) = some 1 := by decide +kernel
theorem kw_X2_ticksOf : Cond.instanceMethod yX2_ticksOf ∈ ALLW ∧ Cond.selects RX2 yX2_ticksOf yX2_ticksOf ∈ ALLW ∧ Cond.initialized RX2 ∈ ALLW ∧ Cond.code yX2_ticksOf cX2_ticksOf 2 (some .int) ∈ ALLW := ⟨mw_402, mw_403, mw_69, mw_404⟩
theorem ko_X2_works : yX2_works.cls ≠ "java/lang/invoke/MethodHandle" ∧ yX2_works.cls ≠ "java/lang/invoke/VarHandle" ∧ (parseMethodDescriptor yX2_works.desc).map (fun d => d.parameters.length) = some 1 := by decide +kernel
theorem kw_X2_works : Cond.instanceMethod yX2_works ∈ ALLW ∧ Cond.selects RX2 yX2_works yX2_works ∈ ALLW ∧ Cond.initialized RX2 ∈ ALLW ∧ Cond.code yX2_works cX2_works 3 (some .int) ∈ ALLW := ⟨mw_407, mw_408, mw_69, mw_409⟩
theorem ko_X3_errorAt : yX3_errorAt.cls ≠ "java/lang/invoke/MethodHandle" ∧ yX3_errorAt.cls ≠ "java/lang/invoke/VarHandle" ∧ (parseMethodDescriptor yX3_errorAt.desc).map (fun d => d.parameters.length) = some 0 := by decide +kernel
theorem kw_X3_errorAt : Cond.instanceMethod yX3_errorAt ∈ ALLW ∧ Cond.selects RX3 yX3_errorAt yX3_errorAt ∈ ALLW ∧ Cond.initialized RX3 ∈ ALLW ∧ Cond.code yX3_errorAt cX3_errorAt 4 (some .int) ∈ ALLW := ⟨mw_294, mw_295, mw_72, mw_296⟩
theorem ko_X3_put : yX3_put.cls ≠ "java/lang/invoke/MethodHandle" ∧ yX3_put.cls ≠ "java/lang/invoke/VarHandle" ∧ (parseMethodDescriptor yX3_put.desc).map (fun d => d.parameters.length) = some 1 := by decide +kernel
theorem kw_X3_put : Cond.instanceMethod yX3_put ∈ ALLW ∧ Cond.selects RX3 yX3_put yX3_put ∈ ALLW ∧ Cond.initialized RX3 ∈ ALLW ∧ Cond.code yX3_put cX3_put 2 none ∈ ALLW := ⟨mw_487, mw_488, mw_72, mw_489⟩
theorem ko_X3_putOn : yX3_putOn.cls ≠ "java/lang/invoke/MethodHandle" ∧ yX3_putOn.cls ≠ "java/lang/invoke/VarHandle" ∧ (parseMethodDescriptor yX3_putOn.desc).map (fun d => d.parameters.length) = some 1 := by decide +kernel
theorem kw_X3_putOn : Cond.instanceMethod yX3_putOn ∈ ALLW ∧ Cond.selects RX3 yX3_putOn yX3_putOn ∈ ALLW ∧ Cond.initialized RX3 ∈ ALLW ∧ Cond.code yX3_putOn cX3_putOn 4 (some .int) ∈ ALLW := ⟨mw_847, mw_848, mw_72, mw_849⟩
theorem ko_X4_glowAfter : yX4_glowAfter.cls ≠ "java/lang/invoke/MethodHandle" ∧ yX4_glowAfter.cls ≠ "java/lang/invoke/VarHandle" ∧ (parseMethodDescriptor yX4_glowAfter.desc).map (fun d => d.parameters.length) = some 4 := by decide +kernel
theorem kw_X4_glowAfter : Cond.instanceMethod yX4_glowAfter ∈ ALLW ∧ Cond.selects RX4 yX4_glowAfter yX4_glowAfter ∈ ALLW ∧ Cond.initialized RX4 ∈ ALLW ∧ Cond.code yX4_glowAfter cX4_glowAfter 8 (some .int) ∈ ALLW := ⟨mw_825, mw_826, mw_70, mw_827⟩
theorem ko_X4_glowBehind : yX4_glowBehind.cls ≠ "java/lang/invoke/MethodHandle" ∧ yX4_glowBehind.cls ≠ "java/lang/invoke/VarHandle" ∧ (parseMethodDescriptor yX4_glowBehind.desc).map (fun d => d.parameters.length) = some 3 := by decide +kernel
theorem kw_X4_glowBehind : Cond.instanceMethod yX4_glowBehind ∈ ALLW ∧ Cond.selects RX4 yX4_glowBehind yX4_glowBehind ∈ ALLW ∧ Cond.initialized RX4 ∈ ALLW ∧ Cond.code yX4_glowBehind cX4_glowBehind 6 (some .int) ∈ ALLW := ⟨mw_446, mw_447, mw_70, mw_448⟩
theorem ko_X4_take : yX4_take.cls ≠ "java/lang/invoke/MethodHandle" ∧ yX4_take.cls ≠ "java/lang/invoke/VarHandle" ∧ (parseMethodDescriptor yX4_take.desc).map (fun d => d.parameters.length) = some 2 := by decide +kernel
theorem kw_X4_take : Cond.instanceMethod yX4_take ∈ ALLW ∧ Cond.selects RX4 yX4_take yX4_take ∈ ALLW ∧ Cond.initialized RX4 ∈ ALLW ∧ Cond.code yX4_take cX4_take 5 none ∈ ALLW := ⟨mw_394, mw_395, mw_70, mw_396⟩
theorem ko_X4_ticksOfRound : yX4_ticksOfRound.cls ≠ "java/lang/invoke/MethodHandle" ∧ yX4_ticksOfRound.cls ≠ "java/lang/invoke/VarHandle" ∧ (parseMethodDescriptor yX4_ticksOfRound.desc).map (fun d => d.parameters.length) = some 0 := by decide +kernel
theorem kw_X4_ticksOfRound : Cond.instanceMethod yX4_ticksOfRound ∈ ALLW ∧ Cond.selects RX4 yX4_ticksOfRound yX4_ticksOfRound ∈ ALLW ∧ Cond.initialized RX4 ∈ ALLW ∧ Cond.code yX4_ticksOfRound cX4_ticksOfRound 1 (some .int) ∈ ALLW := ⟨mw_441, mw_442, mw_70, mw_443⟩
theorem ko_X5_alikeSigns : yX5_alikeSigns.cls ≠ "java/lang/invoke/MethodHandle" ∧ yX5_alikeSigns.cls ≠ "java/lang/invoke/VarHandle" ∧ (parseMethodDescriptor yX5_alikeSigns.desc).map (fun d => d.parameters.length) = some 1 := by decide +kernel
theorem kw_X5_alikeSigns : Cond.instanceMethod yX5_alikeSigns ∈ ALLW ∧ Cond.selects RX5 yX5_alikeSigns yX5_alikeSigns ∈ ALLW ∧ Cond.initialized RX5 ∈ ALLW ∧ Cond.code yX5_alikeSigns cX5_alikeSigns 6 (some .int) ∈ ALLW := ⟨mw_578, mw_13, mw_67, mw_579⟩
theorem ko_X5_bit : yX5_bit.cls ≠ "java/lang/invoke/MethodHandle" ∧ yX5_bit.cls ≠ "java/lang/invoke/VarHandle" ∧ (parseMethodDescriptor yX5_bit.desc).map (fun d => d.parameters.length) = some 2 := by decide +kernel
theorem kw_X5_bit : Cond.static yX5_bit ∈ ALLW ∧ Cond.initialized RX5 ∈ ALLW ∧ Cond.code yX5_bit cX5_bit 2 (some .int) ∈ ALLW := ⟨mw_416, mw_67, mw_417⟩
theorem ko_X5_bitsOf : yX5_bitsOf.cls ≠ "java/lang/invoke/MethodHandle" ∧ yX5_bitsOf.cls ≠ "java/lang/invoke/VarHandle" ∧ (parseMethodDescriptor yX5_bitsOf.desc).map (fun d => d.parameters.length) = some 3 := by decide +kernel
theorem kw_X5_bitsOf : Cond.static yX5_bitsOf ∈ ALLW ∧ Cond.initialized RX5 ∈ ALLW ∧ Cond.code yX5_bitsOf cX5_bitsOf 10 (some .long) ∈ ALLW := ⟨mw_625, mw_67, mw_626⟩
theorem ko_X5_checkBalanced : yX5_checkBalanced.cls ≠ "java/lang/invoke/MethodHandle" ∧ yX5_checkBalanced.cls ≠ "java/lang/invoke/VarHandle" ∧ (parseMethodDescriptor yX5_checkBalanced.desc).map (fun d => d.parameters.length) = some 1 := by decide +kernel
theorem kw_X5_checkBalanced : Cond.static yX5_checkBalanced ∈ ALLW ∧ Cond.initialized RX5 ∈ ALLW ∧ Cond.code yX5_checkBalanced cX5_checkBalanced 1 none ∈ ALLW := ⟨mw_773, mw_67, mw_774⟩
theorem ko_X5_checkSegment : yX5_checkSegment.cls ≠ "java/lang/invoke/MethodHandle" ∧ yX5_checkSegment.cls ≠ "java/lang/invoke/VarHandle" ∧ (parseMethodDescriptor yX5_checkSegment.desc).map (fun d => d.parameters.length) = some 1 := by decide +kernel
theorem kw_X5_checkSegment : Cond.static yX5_checkSegment ∈ ALLW ∧ Cond.initialized RX5 ∈ ALLW ∧ Cond.code yX5_checkSegment cX5_checkSegment 1 none ∈ ALLW := ⟨mw_743, mw_67, mw_744⟩
theorem ko_X5_checkSetting : yX5_checkSetting.cls ≠ "java/lang/invoke/MethodHandle" ∧ yX5_checkSetting.cls ≠ "java/lang/invoke/VarHandle" ∧ (parseMethodDescriptor yX5_checkSetting.desc).map (fun d => d.parameters.length) = some 1 := by decide +kernel
theorem kw_X5_checkSetting : Cond.static yX5_checkSetting ∈ ALLW ∧ Cond.initialized RX5 ∈ ALLW ∧ Cond.code yX5_checkSetting cX5_checkSetting 1 none ∈ ALLW := ⟨mw_800, mw_67, mw_801⟩
theorem ko_X5_checkSlot : yX5_checkSlot.cls ≠ "java/lang/invoke/MethodHandle" ∧ yX5_checkSlot.cls ≠ "java/lang/invoke/VarHandle" ∧ (parseMethodDescriptor yX5_checkSlot.desc).map (fun d => d.parameters.length) = some 1 := by decide +kernel
theorem kw_X5_checkSlot : Cond.static yX5_checkSlot ∈ ALLW ∧ Cond.initialized RX5 ∈ ALLW ∧ Cond.code yX5_checkSlot cX5_checkSlot 1 none ∈ ALLW := ⟨mw_639, mw_67, mw_640⟩
theorem ko_X5_checkSnapshot : yX5_checkSnapshot.cls ≠ "java/lang/invoke/MethodHandle" ∧ yX5_checkSnapshot.cls ≠ "java/lang/invoke/VarHandle" ∧ (parseMethodDescriptor yX5_checkSnapshot.desc).map (fun d => d.parameters.length) = some 1 := by decide +kernel
theorem kw_X5_checkSnapshot : Cond.static yX5_checkSnapshot ∈ ALLW ∧ Cond.initialized RX5 ∈ ALLW ∧ Cond.code yX5_checkSnapshot cX5_checkSnapshot 1 none ∈ ALLW := ⟨mw_858, mw_67, mw_859⟩
theorem ko_X5_checkTime : yX5_checkTime.cls ≠ "java/lang/invoke/MethodHandle" ∧ yX5_checkTime.cls ≠ "java/lang/invoke/VarHandle" ∧ (parseMethodDescriptor yX5_checkTime.desc).map (fun d => d.parameters.length) = some 1 := by decide +kernel
theorem kw_X5_checkTime : Cond.static yX5_checkTime ∈ ALLW ∧ Cond.initialized RX5 ∈ ALLW ∧ Cond.code yX5_checkTime cX5_checkTime 1 none ∈ ALLW := ⟨mw_761, mw_67, mw_762⟩
theorem ko_X5_checkWhat : yX5_checkWhat.cls ≠ "java/lang/invoke/MethodHandle" ∧ yX5_checkWhat.cls ≠ "java/lang/invoke/VarHandle" ∧ (parseMethodDescriptor yX5_checkWhat.desc).map (fun d => d.parameters.length) = some 2 := by decide +kernel
theorem kw_X5_checkWhat : Cond.static yX5_checkWhat ∈ ALLW ∧ Cond.initialized RX5 ∈ ALLW ∧ Cond.code yX5_checkWhat cX5_checkWhat 2 none ∈ ALLW := ⟨mw_885, mw_67, mw_886⟩
theorem ko_X5_codeOf : yX5_codeOf.cls ≠ "java/lang/invoke/MethodHandle" ∧ yX5_codeOf.cls ≠ "java/lang/invoke/VarHandle" ∧ (parseMethodDescriptor yX5_codeOf.desc).map (fun d => d.parameters.length) = some 1 := by decide +kernel
theorem kw_X5_codeOf : Cond.static yX5_codeOf ∈ ALLW ∧ Cond.initialized RX5 ∈ ALLW ∧ Cond.code yX5_codeOf cX5_codeOf 1 (some .char) ∈ ALLW := ⟨mw_463, mw_67, mw_464⟩
theorem ko_X5_fadeAndLight : yX5_fadeAndLight.cls ≠ "java/lang/invoke/MethodHandle" ∧ yX5_fadeAndLight.cls ≠ "java/lang/invoke/VarHandle" ∧ (parseMethodDescriptor yX5_fadeAndLight.desc).map (fun d => d.parameters.length) = some 1 := by decide +kernel
theorem kw_X5_fadeAndLight : Cond.instanceMethod yX5_fadeAndLight ∈ ALLW ∧ Cond.selects RX5 yX5_fadeAndLight yX5_fadeAndLight ∈ ALLW ∧ Cond.initialized RX5 ∈ ALLW ∧ Cond.code yX5_fadeAndLight cX5_fadeAndLight 5 none ∈ ALLW := ⟨mw_821, mw_22, mw_67, mw_822⟩
theorem ko_X5_flicker : yX5_flicker.cls ≠ "java/lang/invoke/MethodHandle" ∧ yX5_flicker.cls ≠ "java/lang/invoke/VarHandle" ∧ (parseMethodDescriptor yX5_flicker.desc).map (fun d => d.parameters.length) = some 0 := by decide +kernel
theorem kw_X5_flicker : Cond.instanceMethod yX5_flicker ∈ ALLW ∧ Cond.selects RX5 yX5_flicker yX5_flicker ∈ ALLW ∧ Cond.initialized RX5 ∈ ALLW ∧ Cond.code yX5_flicker cX5_flicker 6 (some .int) ∈ ALLW := ⟨mw_558, mw_8, mw_67, mw_559⟩
theorem ko_X5_hashWithSlot : yX5_hashWithSlot.cls ≠ "java/lang/invoke/MethodHandle" ∧ yX5_hashWithSlot.cls ≠ "java/lang/invoke/VarHandle" ∧ (parseMethodDescriptor yX5_hashWithSlot.desc).map (fun d => d.parameters.length) = some 2 := by decide +kernel
theorem kw_X5_hashWithSlot : Cond.instanceMethod yX5_hashWithSlot ∈ ALLW ∧ Cond.selects RX5 yX5_hashWithSlot yX5_hashWithSlot ∈ ALLW ∧ Cond.initialized RX5 ∈ ALLW ∧ Cond.code yX5_hashWithSlot cX5_hashWithSlot 8 (some .long) ∈ ALLW := ⟨mw_562, mw_9, mw_67, mw_563⟩
theorem ko_X5_leastHurt : yX5_leastHurt.cls ≠ "java/lang/invoke/MethodHandle" ∧ yX5_leastHurt.cls ≠ "java/lang/invoke/VarHandle" ∧ (parseMethodDescriptor yX5_leastHurt.desc).map (fun d => d.parameters.length) = some 1 := by decide +kernel
theorem kw_X5_leastHurt : Cond.instanceMethod yX5_leastHurt ∈ ALLW ∧ Cond.selects RX5 yX5_leastHurt yX5_leastHurt ∈ ALLW ∧ Cond.initialized RX5 ∈ ALLW ∧ Cond.code yX5_leastHurt cX5_leastHurt 7 (some .int) ∈ ALLW := ⟨mw_606, mw_18, mw_67, mw_607⟩
theorem ko_X5_lightBySlots : yX5_lightBySlots.cls ≠ "java/lang/invoke/MethodHandle" ∧ yX5_lightBySlots.cls ≠ "java/lang/invoke/VarHandle" ∧ (parseMethodDescriptor yX5_lightBySlots.desc).map (fun d => d.parameters.length) = some 0 := by decide +kernel
theorem kw_X5_lightBySlots : Cond.instanceMethod yX5_lightBySlots ∈ ALLW ∧ Cond.selects RX5 yX5_lightBySlots yX5_lightBySlots ∈ ALLW ∧ Cond.initialized RX5 ∈ ALLW ∧ Cond.code yX5_lightBySlots cX5_lightBySlots 3 (some .int) ∈ ALLW := ⟨mw_539, mw_4, mw_67, mw_540⟩
theorem ko_X5_lightByTicks : yX5_lightByTicks.cls ≠ "java/lang/invoke/MethodHandle" ∧ yX5_lightByTicks.cls ≠ "java/lang/invoke/VarHandle" ∧ (parseMethodDescriptor yX5_lightByTicks.desc).map (fun d => d.parameters.length) = some 0 := by decide +kernel
theorem kw_X5_lightByTicks : Cond.instanceMethod yX5_lightByTicks ∈ ALLW ∧ Cond.selects RX5 yX5_lightByTicks yX5_lightByTicks ∈ ALLW ∧ Cond.initialized RX5 ∈ ALLW ∧ Cond.code yX5_lightByTicks cX5_lightByTicks 5 (some .int) ∈ ALLW := ⟨mw_529, mw_2, mw_67, mw_530⟩
theorem ko_X5_lightInTick : yX5_lightInTick.cls ≠ "java/lang/invoke/MethodHandle" ∧ yX5_lightInTick.cls ≠ "java/lang/invoke/VarHandle" ∧ (parseMethodDescriptor yX5_lightInTick.desc).map (fun d => d.parameters.length) = some 1 := by decide +kernel
theorem kw_X5_lightInTick : Cond.instanceMethod yX5_lightInTick ∈ ALLW ∧ Cond.selects RX5 yX5_lightInTick yX5_lightInTick ∈ ALLW ∧ Cond.initialized RX5 ∈ ALLW ∧ Cond.code yX5_lightInTick cX5_lightInTick 3 (some .int) ∈ ALLW := ⟨mw_533, mw_3, mw_67, mw_534⟩
theorem ko_X5_litShare : yX5_litShare.cls ≠ "java/lang/invoke/MethodHandle" ∧ yX5_litShare.cls ≠ "java/lang/invoke/VarHandle" ∧ (parseMethodDescriptor yX5_litShare.desc).map (fun d => d.parameters.length) = some 0 := by decide +kernel
theorem kw_X5_litShare : Cond.instanceMethod yX5_litShare ∈ ALLW ∧ Cond.selects RX5 yX5_litShare yX5_litShare ∈ ALLW ∧ Cond.initialized RX5 ∈ ALLW ∧ Cond.code yX5_litShare cX5_litShare 2 (some .double) ∈ ALLW := ⟨mw_493, mw_494, mw_67, mw_495⟩
theorem ko_X5_lowestAlike : yX5_lowestAlike.cls ≠ "java/lang/invoke/MethodHandle" ∧ yX5_lowestAlike.cls ≠ "java/lang/invoke/VarHandle" ∧ (parseMethodDescriptor yX5_lowestAlike.desc).map (fun d => d.parameters.length) = some 1 := by decide +kernel
theorem kw_X5_lowestAlike : Cond.instanceMethod yX5_lowestAlike ∈ ALLW ∧ Cond.selects RX5 yX5_lowestAlike yX5_lowestAlike ∈ ALLW ∧ Cond.initialized RX5 ∈ ALLW ∧ Cond.code yX5_lowestAlike cX5_lowestAlike 5 (some .int) ∈ ALLW := ⟨mw_584, mw_14, mw_67, mw_585⟩
theorem ko_X5_maskOf : yX5_maskOf.cls ≠ "java/lang/invoke/MethodHandle" ∧ yX5_maskOf.cls ≠ "java/lang/invoke/VarHandle" ∧ (parseMethodDescriptor yX5_maskOf.desc).map (fun d => d.parameters.length) = some 1 := by decide +kernel
theorem kw_X5_maskOf : Cond.static yX5_maskOf ∈ ALLW ∧ Cond.initialized RX5 ∈ ALLW ∧ Cond.code yX5_maskOf cX5_maskOf 1 (some .int) ∈ ALLW := ⟨mw_411, mw_67, mw_412⟩
theorem ko_X5_meanBrightness : yX5_meanBrightness.cls ≠ "java/lang/invoke/MethodHandle" ∧ yX5_meanBrightness.cls ≠ "java/lang/invoke/VarHandle" ∧ (parseMethodDescriptor yX5_meanBrightness.desc).map (fun d => d.parameters.length) = some 0 := by decide +kernel
theorem kw_X5_meanBrightness : Cond.instanceMethod yX5_meanBrightness ∈ ALLW ∧ Cond.selects RX5 yX5_meanBrightness yX5_meanBrightness ∈ ALLW ∧ Cond.initialized RX5 ∈ ALLW ∧ Cond.code yX5_meanBrightness cX5_meanBrightness 4 (some .float) ∈ ALLW := ⟨mw_502, mw_503, mw_67, mw_504⟩
theorem ko_X5_meanIfTimed : yX5_meanIfTimed.cls ≠ "java/lang/invoke/MethodHandle" ∧ yX5_meanIfTimed.cls ≠ "java/lang/invoke/VarHandle" ∧ (parseMethodDescriptor yX5_meanIfTimed.desc).map (fun d => d.parameters.length) = some 2 := by decide +kernel
theorem kw_X5_meanIfTimed : Cond.instanceMethod yX5_meanIfTimed ∈ ALLW ∧ Cond.selects RX5 yX5_meanIfTimed yX5_meanIfTimed ∈ ALLW ∧ Cond.initialized RX5 ∈ ALLW ∧ Cond.code yX5_meanIfTimed cX5_meanIfTimed 3 (some .int) ∈ ALLW := ⟨mw_610, mw_19, mw_67, mw_611⟩
theorem ko_X5_number : yX5_number.cls ≠ "java/lang/invoke/MethodHandle" ∧ yX5_number.cls ≠ "java/lang/invoke/VarHandle" ∧ (parseMethodDescriptor yX5_number.desc).map (fun d => d.parameters.length) = some 1 := by decide +kernel
theorem kw_X5_number : Cond.instanceMethod yX5_number ∈ ALLW ∧ Cond.selects RX5 yX5_number yX5_number ∈ ALLW ∧ Cond.initialized RX5 ∈ ALLW ∧ Cond.code yX5_number cX5_number 2 (some .int) ∈ ALLW := ⟨mw_521, mw_1, mw_67, mw_522⟩
theorem ko_X5_readRight : yX5_readRight.cls ≠ "java/lang/invoke/MethodHandle" ∧ yX5_readRight.cls ≠ "java/lang/invoke/VarHandle" ∧ (parseMethodDescriptor yX5_readRight.desc).map (fun d => d.parameters.length) = some 1 := by decide +kernel
theorem kw_X5_readRight : Cond.instanceMethod yX5_readRight ∈ ALLW ∧ Cond.selects RX5 yX5_readRight yX5_readRight ∈ ALLW ∧ Cond.initialized RX5 ∈ ALLW ∧ Cond.code yX5_readRight cX5_readRight 2 (some .boolean) ∈ ALLW := ⟨mw_570, mw_11, mw_67, mw_571⟩
theorem ko_X5_saveState : yX5_saveState.cls ≠ "java/lang/invoke/MethodHandle" ∧ yX5_saveState.cls ≠ "java/lang/invoke/VarHandle" ∧ (parseMethodDescriptor yX5_saveState.desc).map (fun d => d.parameters.length) = some 0 := by decide +kernel
theorem kw_X5_saveState : Cond.instanceMethod yX5_saveState ∈ ALLW ∧ Cond.selects RX5 yX5_saveState yX5_saveState ∈ ALLW ∧ Cond.initialized RX5 ∈ ALLW ∧ Cond.code yX5_saveState cX5_saveState 1 none ∈ ALLW := ⟨mw_726, mw_21, mw_67, mw_727⟩
theorem ko_X5_segmentProperty : yX5_segmentProperty.cls ≠ "java/lang/invoke/MethodHandle" ∧ yX5_segmentProperty.cls ≠ "java/lang/invoke/VarHandle" ∧ (parseMethodDescriptor yX5_segmentProperty.desc).map (fun d => d.parameters.length) = some 3 := by decide +kernel
theorem kw_X5_segmentProperty : Cond.instanceMethod yX5_segmentProperty ∈ ALLW ∧ Cond.selects RX5 yX5_segmentProperty yX5_segmentProperty ∈ ALLW ∧ Cond.initialized RX5 ∈ ALLW ∧ Cond.code yX5_segmentProperty cX5_segmentProperty 5 (some .int) ∈ ALLW := ⟨mw_574, mw_12, mw_67, mw_575⟩
theorem ko_X5_slotProperty : yX5_slotProperty.cls ≠ "java/lang/invoke/MethodHandle" ∧ yX5_slotProperty.cls ≠ "java/lang/invoke/VarHandle" ∧ (parseMethodDescriptor yX5_slotProperty.desc).map (fun d => d.parameters.length) = some 2 := by decide +kernel
theorem kw_X5_slotProperty : Cond.instanceMethod yX5_slotProperty ∈ ALLW ∧ Cond.selects RX5 yX5_slotProperty yX5_slotProperty ∈ ALLW ∧ Cond.initialized RX5 ∈ ALLW ∧ Cond.code yX5_slotProperty cX5_slotProperty 3 (some .int) ∈ ALLW := ⟨mw_566, mw_10, mw_67, mw_567⟩
theorem ko_X5_slotsReadAsTheirSigns : yX5_slotsReadAsTheirSigns.cls ≠ "java/lang/invoke/MethodHandle" ∧ yX5_slotsReadAsTheirSigns.cls ≠ "java/lang/invoke/VarHandle" ∧ (parseMethodDescriptor yX5_slotsReadAsTheirSigns.desc).map (fun d => d.parameters.length) = some 0 := by decide +kernel
theorem kw_X5_slotsReadAsTheirSigns : Cond.instanceMethod yX5_slotsReadAsTheirSigns ∈ ALLW ∧ Cond.selects RX5 yX5_slotsReadAsTheirSigns yX5_slotsReadAsTheirSigns ∈ ALLW ∧ Cond.initialized RX5 ∈ ALLW ∧ Cond.code yX5_slotsReadAsTheirSigns cX5_slotsReadAsTheirSigns 3 (some .int) ∈ ALLW := ⟨mw_547, mw_6, mw_67, mw_548⟩
theorem ko_X5_timeIfBalanced : yX5_timeIfBalanced.cls ≠ "java/lang/invoke/MethodHandle" ∧ yX5_timeIfBalanced.cls ≠ "java/lang/invoke/VarHandle" ∧ (parseMethodDescriptor yX5_timeIfBalanced.desc).map (fun d => d.parameters.length) = some 2 := by decide +kernel
theorem kw_X5_timeIfBalanced : Cond.instanceMethod yX5_timeIfBalanced ∈ ALLW ∧ Cond.selects RX5 yX5_timeIfBalanced yX5_timeIfBalanced ∈ ALLW ∧ Cond.initialized RX5 ∈ ALLW ∧ Cond.code yX5_timeIfBalanced cX5_timeIfBalanced 4 (some .int) ∈ ALLW := ⟨mw_588, mw_15, mw_67, mw_589⟩
theorem ko_X5_unevenness : yX5_unevenness.cls ≠ "java/lang/invoke/MethodHandle" ∧ yX5_unevenness.cls ≠ "java/lang/invoke/VarHandle" ∧ (parseMethodDescriptor yX5_unevenness.desc).map (fun d => d.parameters.length) = some 0 := by decide +kernel
theorem kw_X5_unevenness : Cond.instanceMethod yX5_unevenness ∈ ALLW ∧ Cond.selects RX5 yX5_unevenness yX5_unevenness ∈ ALLW ∧ Cond.initialized RX5 ∈ ALLW ∧ Cond.code yX5_unevenness cX5_unevenness 5 (some .int) ∈ ALLW := ⟨mw_551, mw_7, mw_67, mw_552⟩
theorem ko_X5_workingSlots : yX5_workingSlots.cls ≠ "java/lang/invoke/MethodHandle" ∧ yX5_workingSlots.cls ≠ "java/lang/invoke/VarHandle" ∧ (parseMethodDescriptor yX5_workingSlots.desc).map (fun d => d.parameters.length) = some 0 := by decide +kernel
theorem kw_X5_workingSlots : Cond.instanceMethod yX5_workingSlots ∈ ALLW ∧ Cond.selects RX5 yX5_workingSlots yX5_workingSlots ∈ ALLW ∧ Cond.initialized RX5 ∈ ALLW ∧ Cond.code yX5_workingSlots cX5_workingSlots 3 (some .int) ∈ ALLW := ⟨mw_543, mw_5, mw_67, mw_544⟩
theorem ko_X6_allLight : yX6_allLight.cls ≠ "java/lang/invoke/MethodHandle" ∧ yX6_allLight.cls ≠ "java/lang/invoke/VarHandle" ∧ (parseMethodDescriptor yX6_allLight.desc).map (fun d => d.parameters.length) = some 0 := by decide +kernel
theorem kw_X6_allLight : Cond.instanceMethod yX6_allLight ∈ ALLW ∧ Cond.selects RX6 yX6_allLight yX6_allLight ∈ ALLW ∧ Cond.initialized RX6 ∈ ALLW ∧ Cond.code yX6_allLight cX6_allLight 3 (some .int) ∈ ALLW := ⟨mw_1229, mw_54, mw_73, mw_1230⟩
theorem ko_X6_apart : yX6_apart.cls ≠ "java/lang/invoke/MethodHandle" ∧ yX6_apart.cls ≠ "java/lang/invoke/VarHandle" ∧ (parseMethodDescriptor yX6_apart.desc).map (fun d => d.parameters.length) = some 0 := by decide +kernel
theorem kw_X6_apart : Cond.instanceMethod yX6_apart ∈ ALLW ∧ Cond.selects RX6 yX6_apart yX6_apart ∈ ALLW ∧ Cond.initialized RX6 ∈ ALLW ∧ Cond.code yX6_apart cX6_apart 5 (some .int) ∈ ALLW := ⟨mw_1237, mw_56, mw_73, mw_1238⟩
theorem ko_X6_balanced : yX6_balanced.cls ≠ "java/lang/invoke/MethodHandle" ∧ yX6_balanced.cls ≠ "java/lang/invoke/VarHandle" ∧ (parseMethodDescriptor yX6_balanced.desc).map (fun d => d.parameters.length) = some 2 := by decide +kernel
theorem kw_X6_balanced : Cond.instanceMethod yX6_balanced ∈ ALLW ∧ Cond.selects RX6 yX6_balanced yX6_balanced ∈ ALLW ∧ Cond.initialized RX6 ∈ ALLW ∧ Cond.code yX6_balanced cX6_balanced 3 (some .int) ∈ ALLW := ⟨mw_1269, mw_60, mw_73, mw_1270⟩
theorem ko_X6_brightness : yX6_brightness.cls ≠ "java/lang/invoke/MethodHandle" ∧ yX6_brightness.cls ≠ "java/lang/invoke/VarHandle" ∧ (parseMethodDescriptor yX6_brightness.desc).map (fun d => d.parameters.length) = some 2 := by decide +kernel
theorem kw_X6_brightness : Cond.instanceMethod yX6_brightness ∈ ALLW ∧ Cond.selects RX6 yX6_brightness yX6_brightness ∈ ALLW ∧ Cond.initialized RX6 ∈ ALLW ∧ Cond.code yX6_brightness cX6_brightness 4 (some .int) ∈ ALLW := ⟨mw_1174, mw_47, mw_73, mw_1175⟩
theorem ko_X6_copiesGlows : yX6_copiesGlows.cls ≠ "java/lang/invoke/MethodHandle" ∧ yX6_copiesGlows.cls ≠ "java/lang/invoke/VarHandle" ∧ (parseMethodDescriptor yX6_copiesGlows.desc).map (fun d => d.parameters.length) = some 0 := by decide +kernel
theorem kw_X6_copiesGlows : Cond.instanceMethod yX6_copiesGlows ∈ ALLW ∧ Cond.selects RX6 yX6_copiesGlows yX6_copiesGlows ∈ ALLW ∧ Cond.initialized RX6 ∈ ALLW ∧ Cond.code yX6_copiesGlows cX6_copiesGlows 2 none ∈ ALLW := ⟨mw_1099, mw_34, mw_73, mw_1100⟩
theorem ko_X6_could : yX6_could.cls ≠ "java/lang/invoke/MethodHandle" ∧ yX6_could.cls ≠ "java/lang/invoke/VarHandle" ∧ (parseMethodDescriptor yX6_could.desc).map (fun d => d.parameters.length) = some 2 := by decide +kernel
theorem kw_X6_could : Cond.instanceMethod yX6_could ∈ ALLW ∧ Cond.selects RX6 yX6_could yX6_could ∈ ALLW ∧ Cond.initialized RX6 ∈ ALLW ∧ Cond.code yX6_could cX6_could 8 (some .int) ∈ ALLW := ⟨mw_1253, mw_58, mw_73, mw_1254⟩
theorem ko_X6_fails : yX6_fails.cls ≠ "java/lang/invoke/MethodHandle" ∧ yX6_fails.cls ≠ "java/lang/invoke/VarHandle" ∧ (parseMethodDescriptor yX6_fails.desc).map (fun d => d.parameters.length) = some 1 := by decide +kernel
theorem kw_X6_fails : Cond.instanceMethod yX6_fails ∈ ALLW ∧ Cond.selects RX6 yX6_fails yX6_fails ∈ ALLW ∧ Cond.initialized RX6 ∈ ALLW ∧ Cond.code yX6_fails cX6_fails 2 (some .int) ∈ ALLW := ⟨mw_1021, mw_24, mw_73, mw_1022⟩
theorem ko_X6_flicker : yX6_flicker.cls ≠ "java/lang/invoke/MethodHandle" ∧ yX6_flicker.cls ≠ "java/lang/invoke/VarHandle" ∧ (parseMethodDescriptor yX6_flicker.desc).map (fun d => d.parameters.length) = some 0 := by decide +kernel
theorem kw_X6_flicker : Cond.instanceMethod yX6_flicker ∈ ALLW ∧ Cond.selects RX6 yX6_flicker yX6_flicker ∈ ALLW ∧ Cond.initialized RX6 ∈ ALLW ∧ Cond.code yX6_flicker cX6_flicker 4 (some .int) ∈ ALLW := ⟨mw_1241, mw_57, mw_73, mw_1242⟩
theorem ko_X6_gives : yX6_gives.cls ≠ "java/lang/invoke/MethodHandle" ∧ yX6_gives.cls ≠ "java/lang/invoke/VarHandle" ∧ (parseMethodDescriptor yX6_gives.desc).map (fun d => d.parameters.length) = some 1 := by decide +kernel
theorem kw_X6_gives : Cond.instanceMethod yX6_gives ∈ ALLW ∧ Cond.selects RX6 yX6_gives yX6_gives ∈ ALLW ∧ Cond.initialized RX6 ∈ ALLW ∧ Cond.code yX6_gives cX6_gives 4 (some .int) ∈ ALLW := ⟨mw_1071, mw_30, mw_73, mw_1072⟩
theorem ko_X6_hashes : yX6_hashes.cls ≠ "java/lang/invoke/MethodHandle" ∧ yX6_hashes.cls ≠ "java/lang/invoke/VarHandle" ∧ (parseMethodDescriptor yX6_hashes.desc).map (fun d => d.parameters.length) = some 1 := by decide +kernel
theorem kw_X6_hashes : Cond.instanceMethod yX6_hashes ∈ ALLW ∧ Cond.selects RX6 yX6_hashes yX6_hashes ∈ ALLW ∧ Cond.initialized RX6 ∈ ALLW ∧ Cond.code yX6_hashes cX6_hashes 3 none ∈ ALLW := ⟨mw_1302, mw_64, mw_73, mw_1303⟩
theorem ko_X6_hashesSlot : yX6_hashesSlot.cls ≠ "java/lang/invoke/MethodHandle" ∧ yX6_hashesSlot.cls ≠ "java/lang/invoke/VarHandle" ∧ (parseMethodDescriptor yX6_hashesSlot.desc).map (fun d => d.parameters.length) = some 1 := by decide +kernel
theorem kw_X6_hashesSlot : Cond.instanceMethod yX6_hashesSlot ∈ ALLW ∧ Cond.selects RX6 yX6_hashesSlot yX6_hashesSlot ∈ ALLW ∧ Cond.initialized RX6 ∈ ALLW ∧ Cond.code yX6_hashesSlot cX6_hashesSlot 3 none ∈ ALLW := ⟨mw_1307, mw_65, mw_73, mw_1308⟩
theorem ko_X6_in : yX6_in.cls ≠ "java/lang/invoke/MethodHandle" ∧ yX6_in.cls ≠ "java/lang/invoke/VarHandle" ∧ (parseMethodDescriptor yX6_in.desc).map (fun d => d.parameters.length) = some 3 := by decide +kernel
theorem kw_X6_in : Cond.static yX6_in ∈ ALLW ∧ Cond.initialized RX6 ∈ ALLW ∧ Cond.code yX6_in cX6_in 3 (some .boolean) ∈ ALLW := ⟨mw_1017, mw_73, mw_1018⟩
theorem ko_X6_isReadWell : yX6_isReadWell.cls ≠ "java/lang/invoke/MethodHandle" ∧ yX6_isReadWell.cls ≠ "java/lang/invoke/VarHandle" ∧ (parseMethodDescriptor yX6_isReadWell.desc).map (fun d => d.parameters.length) = some 1 := by decide +kernel
theorem kw_X6_isReadWell : Cond.instanceMethod yX6_isReadWell ∈ ALLW ∧ Cond.selects RX6 yX6_isReadWell yX6_isReadWell ∈ ALLW ∧ Cond.initialized RX6 ∈ ALLW ∧ Cond.code yX6_isReadWell cX6_isReadWell 3 (some .boolean) ∈ ALLW := ⟨mw_1201, mw_49, mw_73, mw_1202⟩
theorem ko_X6_isSegment : yX6_isSegment.cls ≠ "java/lang/invoke/MethodHandle" ∧ yX6_isSegment.cls ≠ "java/lang/invoke/VarHandle" ∧ (parseMethodDescriptor yX6_isSegment.desc).map (fun d => d.parameters.length) = some 1 := by decide +kernel
theorem kw_X6_isSegment : Cond.static yX6_isSegment ∈ ALLW ∧ Cond.initialized RX6 ∈ ALLW ∧ Cond.code yX6_isSegment cX6_isSegment 1 (some .boolean) ∈ ALLW := ⟨mw_1040, mw_73, mw_1041⟩
theorem ko_X6_isSlot : yX6_isSlot.cls ≠ "java/lang/invoke/MethodHandle" ∧ yX6_isSlot.cls ≠ "java/lang/invoke/VarHandle" ∧ (parseMethodDescriptor yX6_isSlot.desc).map (fun d => d.parameters.length) = some 1 := by decide +kernel
theorem kw_X6_isSlot : Cond.static yX6_isSlot ∈ ALLW ∧ Cond.initialized RX6 ∈ ALLW ∧ Cond.code yX6_isSlot cX6_isSlot 1 (some .boolean) ∈ ALLW := ⟨mw_1014, mw_73, mw_1015⟩
theorem ko_X6_lay : yX6_lay.cls ≠ "java/lang/invoke/MethodHandle" ∧ yX6_lay.cls ≠ "java/lang/invoke/VarHandle" ∧ (parseMethodDescriptor yX6_lay.desc).map (fun d => d.parameters.length) = some 3 := by decide +kernel
theorem kw_X6_lay : Cond.instanceMethod yX6_lay ∈ ALLW ∧ Cond.selects RX6 yX6_lay yX6_lay ∈ ALLW ∧ Cond.initialized RX6 ∈ ALLW ∧ Cond.code yX6_lay cX6_lay 4 none ∈ ALLW := ⟨mw_945, mw_23, mw_73, mw_946⟩
theorem ko_X6_left : yX6_left.cls ≠ "java/lang/invoke/MethodHandle" ∧ yX6_left.cls ≠ "java/lang/invoke/VarHandle" ∧ (parseMethodDescriptor yX6_left.desc).map (fun d => d.parameters.length) = some 1 := by decide +kernel
theorem kw_X6_left : Cond.instanceMethod yX6_left ∈ ALLW ∧ Cond.selects RX6 yX6_left yX6_left ∈ ALLW ∧ Cond.initialized RX6 ∈ ALLW ∧ Cond.code yX6_left cX6_left 3 (some .int) ∈ ALLW := ⟨mw_1123, mw_40, mw_73, mw_1124⟩
theorem ko_X6_lengthOf : yX6_lengthOf.cls ≠ "java/lang/invoke/MethodHandle" ∧ yX6_lengthOf.cls ≠ "java/lang/invoke/VarHandle" ∧ (parseMethodDescriptor yX6_lengthOf.desc).map (fun d => d.parameters.length) = some 1 := by decide +kernel
theorem kw_X6_lengthOf : Cond.instanceMethod yX6_lengthOf ∈ ALLW ∧ Cond.selects RX6 yX6_lengthOf yX6_lengthOf ∈ ALLW ∧ Cond.initialized RX6 ∈ ALLW ∧ Cond.code yX6_lengthOf cX6_lengthOf 2 (some .int) ∈ ALLW := ⟨mw_1094, mw_33, mw_73, mw_1095⟩
theorem ko_X6_letter : yX6_letter.cls ≠ "java/lang/invoke/MethodHandle" ∧ yX6_letter.cls ≠ "java/lang/invoke/VarHandle" ∧ (parseMethodDescriptor yX6_letter.desc).map (fun d => d.parameters.length) = some 0 := by decide +kernel
theorem kw_X6_letter : Cond.instanceMethod yX6_letter ∈ ALLW ∧ Cond.selects RX6 yX6_letter yX6_letter ∈ ALLW ∧ Cond.initialized RX6 ∈ ALLW ∧ Cond.code yX6_letter cX6_letter 1 (some .int) ∈ ALLW := ⟨mw_1147, mw_43, mw_73, mw_1148⟩
theorem ko_X6_letterOf : yX6_letterOf.cls ≠ "java/lang/invoke/MethodHandle" ∧ yX6_letterOf.cls ≠ "java/lang/invoke/VarHandle" ∧ (parseMethodDescriptor yX6_letterOf.desc).map (fun d => d.parameters.length) = some 1 := by decide +kernel
theorem kw_X6_letterOf : Cond.static yX6_letterOf ∈ ALLW ∧ Cond.initialized RX6 ∈ ALLW ∧ Cond.code yX6_letterOf cX6_letterOf 1 (some .int) ∈ ALLW := ⟨mw_1177, mw_73, mw_1178⟩
theorem ko_X6_light : yX6_light.cls ≠ "java/lang/invoke/MethodHandle" ∧ yX6_light.cls ≠ "java/lang/invoke/VarHandle" ∧ (parseMethodDescriptor yX6_light.desc).map (fun d => d.parameters.length) = some 1 := by decide +kernel
theorem kw_X6_light : Cond.instanceMethod yX6_light ∈ ALLW ∧ Cond.selects RX6 yX6_light yX6_light ∈ ALLW ∧ Cond.initialized RX6 ∈ ALLW ∧ Cond.code yX6_light cX6_light 3 (some .int) ∈ ALLW := ⟨mw_1115, mw_38, mw_73, mw_1116⟩
theorem ko_X6_lightOf : yX6_lightOf.cls ≠ "java/lang/invoke/MethodHandle" ∧ yX6_lightOf.cls ≠ "java/lang/invoke/VarHandle" ∧ (parseMethodDescriptor yX6_lightOf.desc).map (fun d => d.parameters.length) = some 3 := by decide +kernel
theorem kw_X6_lightOf : Cond.instanceMethod yX6_lightOf ∈ ALLW ∧ Cond.selects RX6 yX6_lightOf yX6_lightOf ∈ ALLW ∧ Cond.initialized RX6 ∈ ALLW ∧ Cond.code yX6_lightOf cX6_lightOf 8 (some .int) ∈ ALLW := ⟨mw_1111, mw_37, mw_73, mw_1112⟩
theorem ko_X6_lit : yX6_lit.cls ≠ "java/lang/invoke/MethodHandle" ∧ yX6_lit.cls ≠ "java/lang/invoke/VarHandle" ∧ (parseMethodDescriptor yX6_lit.desc).map (fun d => d.parameters.length) = some 0 := by decide +kernel
theorem kw_X6_lit : Cond.instanceMethod yX6_lit ∈ ALLW ∧ Cond.selects RX6 yX6_lit yX6_lit ∈ ALLW ∧ Cond.initialized RX6 ∈ ALLW ∧ Cond.code yX6_lit cX6_lit 3 (some .double) ∈ ALLW := ⟨mw_1285, mw_62, mw_73, mw_1286⟩
theorem ko_X6_mean : yX6_mean.cls ≠ "java/lang/invoke/MethodHandle" ∧ yX6_mean.cls ≠ "java/lang/invoke/VarHandle" ∧ (parseMethodDescriptor yX6_mean.desc).map (fun d => d.parameters.length) = some 0 := by decide +kernel
theorem kw_X6_mean : Cond.instanceMethod yX6_mean ∈ ALLW ∧ Cond.selects RX6 yX6_mean yX6_mean ∈ ALLW ∧ Cond.initialized RX6 ∈ ALLW ∧ Cond.code yX6_mean cX6_mean 3 (some .float) ∈ ALLW := ⟨mw_1293, mw_63, mw_73, mw_1294⟩
theorem ko_X6_meanOf : yX6_meanOf.cls ≠ "java/lang/invoke/MethodHandle" ∧ yX6_meanOf.cls ≠ "java/lang/invoke/VarHandle" ∧ (parseMethodDescriptor yX6_meanOf.desc).map (fun d => d.parameters.length) = some 1 := by decide +kernel
theorem kw_X6_meanOf : Cond.instanceMethod yX6_meanOf ∈ ALLW ∧ Cond.selects RX6 yX6_meanOf yX6_meanOf ∈ ALLW ∧ Cond.initialized RX6 ∈ ALLW ∧ Cond.code yX6_meanOf cX6_meanOf 5 (some .int) ∈ ALLW := ⟨mw_1205, mw_50, mw_73, mw_1206⟩
theorem ko_X6_neediest : yX6_neediest.cls ≠ "java/lang/invoke/MethodHandle" ∧ yX6_neediest.cls ≠ "java/lang/invoke/VarHandle" ∧ (parseMethodDescriptor yX6_neediest.desc).map (fun d => d.parameters.length) = some 0 := by decide +kernel
theorem kw_X6_neediest : Cond.instanceMethod yX6_neediest ∈ ALLW ∧ Cond.selects RX6 yX6_neediest yX6_neediest ∈ ALLW ∧ Cond.initialized RX6 ∈ ALLW ∧ Cond.code yX6_neediest cX6_neediest 5 (some .int) ∈ ALLW := ⟨mw_1075, mw_31, mw_73, mw_1076⟩
theorem ko_X6_nextLit : yX6_nextLit.cls ≠ "java/lang/invoke/MethodHandle" ∧ yX6_nextLit.cls ≠ "java/lang/invoke/VarHandle" ∧ (parseMethodDescriptor yX6_nextLit.desc).map (fun d => d.parameters.length) = some 0 := by decide +kernel
theorem kw_X6_nextLit : Cond.instanceMethod yX6_nextLit ∈ ALLW ∧ Cond.selects RX6 yX6_nextLit yX6_nextLit ∈ ALLW ∧ Cond.initialized RX6 ∈ ALLW ∧ Cond.code yX6_nextLit cX6_nextLit 2 (some .int) ∈ ALLW := ⟨mw_1225, mw_53, mw_73, mw_1226⟩
theorem ko_X6_of : yX6_of.cls ≠ "java/lang/invoke/MethodHandle" ∧ yX6_of.cls ≠ "java/lang/invoke/VarHandle" ∧ (parseMethodDescriptor yX6_of.desc).map (fun d => d.parameters.length) = some 2 := by decide +kernel
theorem kw_X6_of : Cond.instanceMethod yX6_of ∈ ALLW ∧ Cond.selects RX6 yX6_of yX6_of ∈ ALLW ∧ Cond.initialized RX6 ∈ ALLW ∧ Cond.code yX6_of cX6_of 3 (some .int) ∈ ALLW := ⟨mw_1029, mw_26, mw_73, mw_1030⟩
theorem ko_X6_ones : yX6_ones.cls ≠ "java/lang/invoke/MethodHandle" ∧ yX6_ones.cls ≠ "java/lang/invoke/VarHandle" ∧ (parseMethodDescriptor yX6_ones.desc).map (fun d => d.parameters.length) = some 1 := by decide +kernel
theorem kw_X6_ones : Cond.static yX6_ones ∈ ALLW ∧ Cond.initialized RX6 ∈ ALLW ∧ Cond.code yX6_ones cX6_ones 3 (some .int) ∈ ALLW := ⟨mw_1078, mw_73, mw_1079⟩
theorem ko_X6_readOf : yX6_readOf.cls ≠ "java/lang/invoke/MethodHandle" ∧ yX6_readOf.cls ≠ "java/lang/invoke/VarHandle" ∧ (parseMethodDescriptor yX6_readOf.desc).map (fun d => d.parameters.length) = some 1 := by decide +kernel
theorem kw_X6_readOf : Cond.instanceMethod yX6_readOf ∈ ALLW ∧ Cond.selects RX6 yX6_readOf yX6_readOf ∈ ALLW ∧ Cond.initialized RX6 ∈ ALLW ∧ Cond.code yX6_readOf cX6_readOf 4 (some .int) ∈ ALLW := ⟨mw_1166, mw_45, mw_73, mw_1167⟩
theorem ko_X6_readWell : yX6_readWell.cls ≠ "java/lang/invoke/MethodHandle" ∧ yX6_readWell.cls ≠ "java/lang/invoke/VarHandle" ∧ (parseMethodDescriptor yX6_readWell.desc).map (fun d => d.parameters.length) = some 0 := by decide +kernel
theorem kw_X6_readWell : Cond.instanceMethod yX6_readWell ∈ ALLW ∧ Cond.selects RX6 yX6_readWell yX6_readWell ∈ ALLW ∧ Cond.initialized RX6 ∈ ALLW ∧ Cond.code yX6_readWell cX6_readWell 3 (some .int) ∈ ALLW := ⟨mw_1233, mw_55, mw_73, mw_1234⟩
theorem ko_X6_readsAll : yX6_readsAll.cls ≠ "java/lang/invoke/MethodHandle" ∧ yX6_readsAll.cls ≠ "java/lang/invoke/VarHandle" ∧ (parseMethodDescriptor yX6_readsAll.desc).map (fun d => d.parameters.length) = some 0 := by decide +kernel
theorem kw_X6_readsAll : Cond.instanceMethod yX6_readsAll ∈ ALLW ∧ Cond.selects RX6 yX6_readsAll yX6_readsAll ∈ ALLW ∧ Cond.initialized RX6 ∈ ALLW ∧ Cond.code yX6_readsAll cX6_readsAll 1 none ∈ ALLW := ⟨mw_1139, mw_41, mw_73, mw_1140⟩
theorem ko_X6_readsSign : yX6_readsSign.cls ≠ "java/lang/invoke/MethodHandle" ∧ yX6_readsSign.cls ≠ "java/lang/invoke/VarHandle" ∧ (parseMethodDescriptor yX6_readsSign.desc).map (fun d => d.parameters.length) = some 0 := by decide +kernel
theorem kw_X6_readsSign : Cond.instanceMethod yX6_readsSign ∈ ALLW ∧ Cond.selects RX6 yX6_readsSign yX6_readsSign ∈ ALLW ∧ Cond.initialized RX6 ∈ ALLW ∧ Cond.code yX6_readsSign cX6_readsSign 2 none ∈ ALLW := ⟨mw_1143, mw_42, mw_73, mw_1144⟩
theorem ko_X6_roundTicks : yX6_roundTicks.cls ≠ "java/lang/invoke/MethodHandle" ∧ yX6_roundTicks.cls ≠ "java/lang/invoke/VarHandle" ∧ (parseMethodDescriptor yX6_roundTicks.desc).map (fun d => d.parameters.length) = some 0 := by decide +kernel
theorem kw_X6_roundTicks : Cond.instanceMethod yX6_roundTicks ∈ ALLW ∧ Cond.selects RX6 yX6_roundTicks yX6_roundTicks ∈ ALLW ∧ Cond.initialized RX6 ∈ ALLW ∧ Cond.code yX6_roundTicks cX6_roundTicks 3 (some .int) ∈ ALLW := ⟨mw_1090, mw_32, mw_73, mw_1091⟩
theorem ko_X6_safestSign : yX6_safestSign.cls ≠ "java/lang/invoke/MethodHandle" ∧ yX6_safestSign.cls ≠ "java/lang/invoke/VarHandle" ∧ (parseMethodDescriptor yX6_safestSign.desc).map (fun d => d.parameters.length) = some 1 := by decide +kernel
theorem kw_X6_safestSign : Cond.instanceMethod yX6_safestSign ∈ ALLW ∧ Cond.selects RX6 yX6_safestSign yX6_safestSign ∈ ALLW ∧ Cond.initialized RX6 ∈ ALLW ∧ Cond.code yX6_safestSign cX6_safestSign 8 (some .int) ∈ ALLW := ⟨mw_1277, mw_61, mw_73, mw_1278⟩
theorem ko_X6_saves : yX6_saves.cls ≠ "java/lang/invoke/MethodHandle" ∧ yX6_saves.cls ≠ "java/lang/invoke/VarHandle" ∧ (parseMethodDescriptor yX6_saves.desc).map (fun d => d.parameters.length) = some 0 := by decide +kernel
theorem kw_X6_saves : Cond.instanceMethod yX6_saves ∈ ALLW ∧ Cond.selects RX6 yX6_saves yX6_saves ∈ ALLW ∧ Cond.initialized RX6 ∈ ALLW ∧ Cond.code yX6_saves cX6_saves 2 none ∈ ALLW := ⟨mw_1025, mw_25, mw_73, mw_1026⟩
theorem ko_X6_seenOf : yX6_seenOf.cls ≠ "java/lang/invoke/MethodHandle" ∧ yX6_seenOf.cls ≠ "java/lang/invoke/VarHandle" ∧ (parseMethodDescriptor yX6_seenOf.desc).map (fun d => d.parameters.length) = some 1 := by decide +kernel
theorem kw_X6_seenOf : Cond.instanceMethod yX6_seenOf ∈ ALLW ∧ Cond.selects RX6 yX6_seenOf yX6_seenOf ∈ ALLW ∧ Cond.initialized RX6 ∈ ALLW ∧ Cond.code yX6_seenOf cX6_seenOf 4 (some .int) ∈ ALLW := ⟨mw_1170, mw_46, mw_73, mw_1171⟩
theorem ko_X6_segmentsOf : yX6_segmentsOf.cls ≠ "java/lang/invoke/MethodHandle" ∧ yX6_segmentsOf.cls ≠ "java/lang/invoke/VarHandle" ∧ (parseMethodDescriptor yX6_segmentsOf.desc).map (fun d => d.parameters.length) = some 1 := by decide +kernel
theorem kw_X6_segmentsOf : Cond.static yX6_segmentsOf ∈ ALLW ∧ Cond.initialized RX6 ∈ ALLW ∧ Cond.code yX6_segmentsOf cX6_segmentsOf 1 (some .int) ∈ ALLW := ⟨mw_1063, mw_73, mw_1064⟩
theorem ko_X6_signOf : yX6_signOf.cls ≠ "java/lang/invoke/MethodHandle" ∧ yX6_signOf.cls ≠ "java/lang/invoke/VarHandle" ∧ (parseMethodDescriptor yX6_signOf.desc).map (fun d => d.parameters.length) = some 1 := by decide +kernel
theorem kw_X6_signOf : Cond.static yX6_signOf ∈ ALLW ∧ Cond.initialized RX6 ∈ ALLW ∧ Cond.code yX6_signOf cX6_signOf 1 (some .int) ∈ ALLW := ⟨mw_1150, mw_73, mw_1151⟩
theorem ko_X6_slotAhead : yX6_slotAhead.cls ≠ "java/lang/invoke/MethodHandle" ∧ yX6_slotAhead.cls ≠ "java/lang/invoke/VarHandle" ∧ (parseMethodDescriptor yX6_slotAhead.desc).map (fun d => d.parameters.length) = some 1 := by decide +kernel
theorem kw_X6_slotAhead : Cond.instanceMethod yX6_slotAhead ∈ ALLW ∧ Cond.selects RX6 yX6_slotAhead yX6_slotAhead ∈ ALLW ∧ Cond.initialized RX6 ∈ ALLW ∧ Cond.code yX6_slotAhead cX6_slotAhead 3 (some .int) ∈ ALLW := ⟨mw_1119, mw_39, mw_73, mw_1120⟩
theorem ko_X6_slotAt : yX6_slotAt.cls ≠ "java/lang/invoke/MethodHandle" ∧ yX6_slotAt.cls ≠ "java/lang/invoke/VarHandle" ∧ (parseMethodDescriptor yX6_slotAt.desc).map (fun d => d.parameters.length) = some 1 := by decide +kernel
theorem kw_X6_slotAt : Cond.instanceMethod yX6_slotAt ∈ ALLW ∧ Cond.selects RX6 yX6_slotAt yX6_slotAt ∈ ALLW ∧ Cond.initialized RX6 ∈ ALLW ∧ Cond.code yX6_slotAt cX6_slotAt 4 (some .int) ∈ ALLW := ⟨mw_1107, mw_36, mw_73, mw_1108⟩
theorem ko_X6_tellsCount : yX6_tellsCount.cls ≠ "java/lang/invoke/MethodHandle" ∧ yX6_tellsCount.cls ≠ "java/lang/invoke/VarHandle" ∧ (parseMethodDescriptor yX6_tellsCount.desc).map (fun d => d.parameters.length) = some 1 := by decide +kernel
theorem kw_X6_tellsCount : Cond.instanceMethod yX6_tellsCount ∈ ALLW ∧ Cond.selects RX6 yX6_tellsCount yX6_tellsCount ∈ ALLW ∧ Cond.initialized RX6 ∈ ALLW ∧ Cond.code yX6_tellsCount cX6_tellsCount 2 (some .int) ∈ ALLW := ⟨mw_1221, mw_52, mw_73, mw_1222⟩
theorem ko_X6_tellsSegment : yX6_tellsSegment.cls ≠ "java/lang/invoke/MethodHandle" ∧ yX6_tellsSegment.cls ≠ "java/lang/invoke/VarHandle" ∧ (parseMethodDescriptor yX6_tellsSegment.desc).map (fun d => d.parameters.length) = some 3 := by decide +kernel
theorem kw_X6_tellsSegment : Cond.instanceMethod yX6_tellsSegment ∈ ALLW ∧ Cond.selects RX6 yX6_tellsSegment yX6_tellsSegment ∈ ALLW ∧ Cond.initialized RX6 ∈ ALLW ∧ Cond.code yX6_tellsSegment cX6_tellsSegment 5 (some .int) ∈ ALLW := ⟨mw_1213, mw_51, mw_73, mw_1214⟩
theorem ko_X6_tellsSlot : yX6_tellsSlot.cls ≠ "java/lang/invoke/MethodHandle" ∧ yX6_tellsSlot.cls ≠ "java/lang/invoke/VarHandle" ∧ (parseMethodDescriptor yX6_tellsSlot.desc).map (fun d => d.parameters.length) = some 2 := by decide +kernel
theorem kw_X6_tellsSlot : Cond.instanceMethod yX6_tellsSlot ∈ ALLW ∧ Cond.selects RX6 yX6_tellsSlot yX6_tellsSlot ∈ ALLW ∧ Cond.initialized RX6 ∈ ALLW ∧ Cond.code yX6_tellsSlot cX6_tellsSlot 3 (some .int) ∈ ALLW := ⟨mw_1197, mw_48, mw_73, mw_1198⟩
theorem ko_X6_ticks : yX6_ticks.cls ≠ "java/lang/invoke/MethodHandle" ∧ yX6_ticks.cls ≠ "java/lang/invoke/VarHandle" ∧ (parseMethodDescriptor yX6_ticks.desc).map (fun d => d.parameters.length) = some 1 := by decide +kernel
theorem kw_X6_ticks : Cond.instanceMethod yX6_ticks ∈ ALLW ∧ Cond.selects RX6 yX6_ticks yX6_ticks ∈ ALLW ∧ Cond.initialized RX6 ∈ ALLW ∧ Cond.code yX6_ticks cX6_ticks 9 none ∈ ALLW := ⟨mw_1103, mw_35, mw_73, mw_1104⟩
theorem ko_X6_timed : yX6_timed.cls ≠ "java/lang/invoke/MethodHandle" ∧ yX6_timed.cls ≠ "java/lang/invoke/VarHandle" ∧ (parseMethodDescriptor yX6_timed.desc).map (fun d => d.parameters.length) = some 2 := by decide +kernel
theorem kw_X6_timed : Cond.instanceMethod yX6_timed ∈ ALLW ∧ Cond.selects RX6 yX6_timed yX6_timed ∈ ALLW ∧ Cond.initialized RX6 ∈ ALLW ∧ Cond.code yX6_timed cX6_timed 5 (some .int) ∈ ALLW := ⟨mw_1261, mw_59, mw_73, mw_1262⟩
theorem ko_X6_views : yX6_views.cls ≠ "java/lang/invoke/MethodHandle" ∧ yX6_views.cls ≠ "java/lang/invoke/VarHandle" ∧ (parseMethodDescriptor yX6_views.desc).map (fun d => d.parameters.length) = some 0 := by decide +kernel
theorem kw_X6_views : Cond.instanceMethod yX6_views ∈ ALLW ∧ Cond.selects RX6 yX6_views yX6_views ∈ ALLW ∧ Cond.initialized RX6 ∈ ALLW ∧ Cond.code yX6_views cX6_views 5 none ∈ ALLW := ⟨mw_1162, mw_44, mw_73, mw_1163⟩
theorem ko_X6_working : yX6_working.cls ≠ "java/lang/invoke/MethodHandle" ∧ yX6_working.cls ≠ "java/lang/invoke/VarHandle" ∧ (parseMethodDescriptor yX6_working.desc).map (fun d => d.parameters.length) = some 2 := by decide +kernel
theorem kw_X6_working : Cond.instanceMethod yX6_working ∈ ALLW ∧ Cond.selects RX6 yX6_working yX6_working ∈ ALLW ∧ Cond.initialized RX6 ∈ ALLW ∧ Cond.code yX6_working cX6_working 3 (some .int) ∈ ALLW := ⟨mw_1067, mw_29, mw_73, mw_1068⟩
theorem ko_X6_workingSlots : yX6_workingSlots.cls ≠ "java/lang/invoke/MethodHandle" ∧ yX6_workingSlots.cls ≠ "java/lang/invoke/VarHandle" ∧ (parseMethodDescriptor yX6_workingSlots.desc).map (fun d => d.parameters.length) = some 0 := by decide +kernel
theorem kw_X6_workingSlots : Cond.instanceMethod yX6_workingSlots ∈ ALLW ∧ Cond.selects RX6 yX6_workingSlots yX6_workingSlots ∈ ALLW ∧ Cond.initialized RX6 ∈ ALLW ∧ Cond.code yX6_workingSlots cX6_workingSlots 3 (some .int) ∈ ALLW := ⟨mw_1056, mw_27, mw_73, mw_1057⟩
theorem ko_X6_works : yX6_works.cls ≠ "java/lang/invoke/MethodHandle" ∧ yX6_works.cls ≠ "java/lang/invoke/VarHandle" ∧ (parseMethodDescriptor yX6_works.desc).map (fun d => d.parameters.length) = some 1 := by decide +kernel
theorem kw_X6_works : Cond.instanceMethod yX6_works ∈ ALLW ∧ Cond.selects RX6 yX6_works yX6_works ∈ ALLW ∧ Cond.initialized RX6 ∈ ALLW ∧ Cond.code yX6_works cX6_works 2 (some .int) ∈ ALLW := ⟨mw_1060, mw_28, mw_73, mw_1061⟩
