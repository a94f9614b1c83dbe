/-! WHAT HOLDS AT EVERY START: classes, statics, nest mates, texts -/
def tS0 (j : Nat) : Int32 := ([63, 6, 91, 79, 102, 109, 125, 7, 127, 111, 119, 124, 57, 94, 121, 113, 64, 0] : List Int32).getD j 0
def tS1 (j : Nat) : Int32 := ([1, 840, 4, 10] : List Int32).getD j 0
def tS2 (j : Nat) : Int32 := ([0, 1, 1, 1] : List Int32).getD j 0
def tS3 (j : Nat) : Int32 := ([3, 2000, 16, 500] : List Int32).getD j 0
def tCodes : List Int32 := [48, 49, 50, 51, 52, 53, 54, 55, 56, 57, 65, 66, 67, 68, 69, 70, 45, 95]
def Fs (g : gG) (s : State) (H : Heap) : Prop :=
  (va_Z "LitDigits" "SIGN_MASKS" "[I" (.ref (sx g 0)) (gA g) s H ∧ va_T .int (sx g 0) 18 (fun j => .int (tS0 j)) (gA g) s H) ∧ (va_Z "LitDigits" "FIRST_SETTINGS" "[I" (.ref (sx g 1)) (gA g) s H ∧ va_T .int (sx g 1) 4 (fun j => .int (tS1 j)) (gA g) s H) ∧ (va_Z "LitDigits" "LEAST_SETTINGS" "[I" (.ref (sx g 2)) (gA g) s H ∧ va_T .int (sx g 2) 4 (fun j => .int (tS2 j)) (gA g) s H) ∧ (va_Z "LitDigits" "MOST_SETTINGS" "[I" (.ref (sx g 3)) (gA g) s H ∧ va_T .int (sx g 3) 4 (fun j => .int (tS3 j)) (gA g) s H) ∧ va_Z "java/lang/String" "COMPACT_STRINGS" "Z" (.int 1) (gA g) s H
def Fn (s : State) : Prop :=
  va_Nw (.methodLinkNest "LitDigits" 9 ⟨"LitDigits$Eye","<init>","()V"⟩ "LitDigits") s ∧ va_Nw (.fieldLinkNest "LitDigits$State" 27 "LitDigits" "FIRST_SETTINGS" "[I" "LitDigits") s ∧ va_Nw (.methodLinkNest "LitDigits$Eye" 34 ⟨"LitDigits$Turn","<init>","()V"⟩ "LitDigits") s ∧ va_Nw (.methodLinkNest "LitDigits" 28 ⟨"LitDigits$Balance","<init>","()V"⟩ "LitDigits") s ∧ va_Nw (.methodLinkNest "LitDigits" 35 ⟨"LitDigits$Turn","<init>","()V"⟩ "LitDigits") s ∧ va_Nw (.methodLinkNest "LitDigits" 42 ⟨"LitDigits$Text","<init>","()V"⟩ "LitDigits") s ∧ va_Nw (.methodLinkNest "LitDigits$State" 52 ⟨"LitDigits","maskOf","(I)I"⟩ "LitDigits") s ∧ va_Nw (.methodLinkNest "LitDigits$State" 56 ⟨"LitDigits","bit","(II)I"⟩ "LitDigits") s ∧ va_Nw (.methodLinkNest "LitDigits$Turn" 69 ⟨"LitDigits","bit","(II)I"⟩ "LitDigits") s ∧ va_Nw (.methodLinkNest "LitDigits$Eye" 75 ⟨"LitDigits","maskOf","(I)I"⟩ "LitDigits") s ∧ va_Nw (.methodLinkNest "LitDigits$Eye" 86 ⟨"LitDigits","bit","(II)I"⟩ "LitDigits") s
def Ft (g : gG) (s : State) : Prop :=
  vk_R "LitDigits$Text" 19 "0123456789ABCDEF-_" (sx g 4) s ∧ vk_R "LitDigits" 361 "0123456789ABCDEF-_" (sx g 6) s ∧ vk_R "LitDigits" 270 "a slot is 0 to 5" (sx g 10) s ∧ vk_R "LitDigits" 67 "a sign is 0 to 17" (sx g 11) s ∧ vk_R "LitDigits" 273 "a segment is 0 to 7" (sx g 12) s ∧ vk_R "LitDigits" 277 "a time is 0 to 20" (sx g 13) s ∧ vk_R "LitDigits" 279 "ticks to balance are 6 to 60" (sx g 14) s ∧ vk_R "LitDigits" 114 "no slot has a segment that works" (sx g 15) s ∧ vk_R "LitDigits" 275 "a setting is 0 to 3" (sx g 16) s ∧ vk_R "LitDigits" 127 "the value is out of the setting's range" (sx g 17) s ∧ vk_R "LitDigits" 132 "ticks are 1 to 200" (sx g 18) s ∧ vk_R "LitDigits" 138 "a round has no ticks" (sx g 19) s ∧ vk_R "LitDigits" 144 "no more than 99999 ticks go by" (sx g 20) s ∧ vk_R "LitDigits" 152 "a character code is 33 to 126" (sx g 21) s ∧ vk_R "LitDigits" 157 "the buffer is full" (sx g 22) s ∧ vk_R "LitDigits" 166 "the buffer does not tell a display" (sx g 23) s ∧ vk_R "LitDigits" 281 "a slot for snapshots is 0 or 1" (sx g 24) s ∧ vk_R "LitDigits" 193 "there is no snapshot in the slot" (sx g 25) s ∧ vk_R "LitDigits" 198 "there is no saved state" (sx g 26) s ∧ vk_R "LitDigits" 283 "there is no such property" (sx g 27) s
def Fc (g : gG) (s : State) (H : Heap) : Prop := vk_S 1 [18] [tCodes] (fun _ => sx g 4) (fun _ => sx g 5) (gA g) s H ∧ vk_S 1 [18] [tCodes] (fun _ => sx g 6) (fun _ => sx g 7) (gA g) s H
def Fq (g : gG) (s : State) (H : Heap) : Prop := vx_Zq Bundle.tN "UNASSIGNED_STACK" Bundle.steD (gA g) s H ∧ vx_Zq Bundle.tN "SUPPRESSED_SENTINEL" Bundle.listD (gA g) s H ∧ va_Zq "jdk/internal/util/Preconditions" "SIOOBE_FORMATTER" "Ljava/util/function/BiFunction;" (gA g) s H
def Fe (s : State) : Prop :=
  va_Nw (.castable "java/lang/IllegalArgumentException" "java/lang/IllegalArgumentException") s ∧ va_Nw (.castable "java/lang/IllegalStateException" "java/lang/IllegalStateException") s ∧ va_Nw (.castable "java/lang/IndexOutOfBoundsException" "java/lang/IndexOutOfBoundsException") s ∧ va_Nw (.declares ⟨"java/lang/RuntimeException", "<init>", "(Ljava/lang/String;)V"⟩) s ∧ va_Nw (.declares ⟨"java/lang/Exception", "<init>", "(Ljava/lang/String;)V"⟩) s ∧ va_Nw (.declares ⟨"java/lang/Throwable", "<init>", "(Ljava/lang/String;)V"⟩) s ∧ va_Nc "java/lang/IllegalArgumentException" "java/lang/IllegalStateException" s ∧ va_Nc "java/lang/IllegalArgumentException" "java/lang/IndexOutOfBoundsException" s ∧ va_Nc "java/lang/IllegalStateException" "java/lang/IllegalArgumentException" s ∧ va_Nc "java/lang/IllegalStateException" "java/lang/IndexOutOfBoundsException" s ∧ va_Nc "java/lang/IndexOutOfBoundsException" "java/lang/IllegalArgumentException" s ∧ va_Nc "java/lang/IndexOutOfBoundsException" "java/lang/IllegalStateException" s
theorem Fe.go {s U : State} (h : Fe s) (hv : s.vm.Alike U.vm) (hN : ∀ C T : String, va_Nw (.castable C T) s → va_Nw (.castable C T) U) (hM : ∀ x : MethodName, va_Nw (.declares x) s → va_Nw (.declares x) U) : Fe U := by
  obtain ⟨h0, h1, h2, h3, h4, h5, h6, h7, h8, h9, h10, h11⟩ := h
  exact ⟨hN _ _ h0, hN _ _ h1, hN _ _ h2, hM _ h3, hM _ h4, hM _ h5, h6.moved hv, h7.moved hv, h8.moved hv, h9.moved hv, h10.moved hv, h11.moved hv⟩
def Fx (g : gG) (s : State) (H : Heap) : Prop := va_K g.1 vwCl (tys g) s ∧ Fs g s H ∧ Fn s ∧ Ft g s ∧ Fc g s H ∧ Fq g s H ∧ Fe s
theorem Fs.go {g : gG} {s U : State} {H H1 : Heap} (h : Fs g s H) (hv : s.vm.Alike U.vm) (hk : ∀ a : Nat, a < H.size → ¬ gA g a → H1[a]? = H[a]?) : Fs g U H1 := by
  obtain ⟨⟨a0, b0⟩, ⟨a1, b1⟩, ⟨a2, b2⟩, ⟨a3, b3⟩, z⟩ := h
  exact ⟨⟨(a0.moved hv).kept hk, (b0.moved hv).kept hk⟩, ⟨(a1.moved hv).kept hk, (b1.moved hv).kept hk⟩, ⟨(a2.moved hv).kept hk, (b2.moved hv).kept hk⟩, ⟨(a3.moved hv).kept hk, (b3.moved hv).kept hk⟩, (z.moved hv).kept hk⟩
theorem Fn.go {s U : State} (h : Fn s) (hW : s.WarmedH U.vm) : Fn U := by
  obtain ⟨h0, h1, h2, h3, h4, h5, h6, h7, h8, h9, h10⟩ := h
  exact ⟨va_Nw.warmM hW h0, va_Nw.warmF hW h1, va_Nw.warmM hW h2, va_Nw.warmM hW h3, va_Nw.warmM hW h4, va_Nw.warmM hW h5, va_Nw.warmM hW h6, va_Nw.warmM hW h7, va_Nw.warmM hW h8, va_Nw.warmM hW h9, va_Nw.warmM hW h10⟩
theorem Ft.go {g : gG} {s U : State} (h : Ft g s) (hW : s.WarmedH U.vm) : Ft g U := by
  obtain ⟨h0, h1, h2, h3, h4, h5, h6, h7, h8, h9, h10, h11, h12, h13, h14, h15, h16, h17, h18, h19⟩ := h
  exact ⟨vk_R.warm hW h0, vk_R.warm hW h1, vk_R.warm hW h2, vk_R.warm hW h3, vk_R.warm hW h4, vk_R.warm hW h5, vk_R.warm hW h6, vk_R.warm hW h7, vk_R.warm hW h8, vk_R.warm hW h9, vk_R.warm hW h10, vk_R.warm hW h11, vk_R.warm hW h12, vk_R.warm hW h13, vk_R.warm hW h14, vk_R.warm hW h15, vk_R.warm hW h16, vk_R.warm hW h17, vk_R.warm hW h18, vk_R.warm hW h19⟩
theorem Fx.go {g : gG} {s U : State} {H : Heap} {locs : List Loc} (h : Fx g s s.heap) (hS : va_S (gA g) s.heap H locs) (hU : U.heap = H) (hW : s.WarmedH U.vm) : Fx g U U.heap := by
  obtain ⟨h1, h2, h3, h4, ⟨c1, c2⟩, ⟨v1, v2, v3⟩, hE⟩ := h
  have hv := hW.alike
  have hk : ∀ a : Nat, a < s.heap.size → ¬ gA g a → U.heap[a]? = s.heap[a]? := by rw [hU]; exact hS.2.1
  exact ⟨h1.moved hv, h2.go hv hk, h3.go hW, h4.go hW, ⟨(c1.moved hv).kept hk, (c2.moved hv).kept hk⟩, ⟨(v1.moved hv).kept hk, (v2.moved hv).kept hk, (v3.moved hv).kept hk⟩, hE.go hv (fun _ _ => va_Nw.warmC hW) (fun _ => va_Nw.warmD hW)⟩
theorem Fn.same {s U : State} (h : Fn s) (hv : s.vm = U.vm) : Fn U := by
  obtain ⟨h0, h1, h2, h3, h4, h5, h6, h7, h8, h9, h10⟩ := h
  exact ⟨va_Nw.same rfl hv h0, va_Nw.same rfl hv h1, va_Nw.same rfl hv h2, va_Nw.same rfl hv h3, va_Nw.same rfl hv h4, va_Nw.same rfl hv h5, va_Nw.same rfl hv h6, va_Nw.same rfl hv h7, va_Nw.same rfl hv h8, va_Nw.same rfl hv h9, va_Nw.same rfl hv h10⟩
theorem Ft.same {g : gG} {s U : State} (h : Ft g s) (hv : s.vm = U.vm) : Ft g U := by
  obtain ⟨h0, h1, h2, h3, h4, h5, h6, h7, h8, h9, h10, h11, h12, h13, h14, h15, h16, h17, h18, h19⟩ := h
  exact ⟨vk_R.same hv.symm h0, vk_R.same hv.symm h1, vk_R.same hv.symm h2, vk_R.same hv.symm h3, vk_R.same hv.symm h4, vk_R.same hv.symm h5, vk_R.same hv.symm h6, vk_R.same hv.symm h7, vk_R.same hv.symm h8, vk_R.same hv.symm h9, vk_R.same hv.symm h10, vk_R.same hv.symm h11, vk_R.same hv.symm h12, vk_R.same hv.symm h13, vk_R.same hv.symm h14, vk_R.same hv.symm h15, vk_R.same hv.symm h16, vk_R.same hv.symm h17, vk_R.same hv.symm h18, vk_R.same hv.symm h19⟩
theorem Fx.same {g : gG} {s U : State} (h : Fx g s s.heap) (hv : s.vm = U.vm) (hh : U.heap = s.heap) : Fx g U U.heap := by
  obtain ⟨h1, h2, h3, h4, ⟨c1, c2⟩, ⟨v1, v2, v3⟩, hE⟩ := h
  have ha : s.vm.Alike U.vm := by rw [hv]; exact Vm.Alike.refl _
  have hk : ∀ a : Nat, a < s.heap.size → ¬ gA g a → U.heap[a]? = s.heap[a]? := fun a _ _ => by rw [hh]
  exact ⟨h1.moved ha, h2.go ha hk, h3.same hv, h4.same hv, ⟨(c1.moved ha).kept hk, (c2.moved ha).kept hk⟩, ⟨(v1.moved ha).kept hk, (v2.moved ha).kept hk, (v3.moved ha).kept hk⟩, hE.go ha (fun _ _ => va_Nw.same rfl hv) (fun _ => va_Nw.same rfl hv)⟩
/-- the facts of a method's body: the machine, its code, its class, the words, the world's addresses, Fx -/
def Cx (g : gG) (p : Program) (s : State) (m : MethodId) (args : Array Value) (c : Code) (meth : Method) (own : String) (cc : ByteArray) : Prop :=
  p.tables.exec = Jvm.exec ∧ c.code = cc ∧ s.vm.findClass own = some m.cls ∧ (∀ w ∈ ALLW, w.before args s = true) ∧ DW g ∧ (∀ q : Nat, s.heap.size ≤ q → gA g q) ∧ Fx g s s.heap ∧ meth.locks = false
def CPre (g : gG) (mm : gM) (As : List Value) : Array Value → State → Prop := va_Pc As (fun U => Fx g U U.heap ∧ va_P g.1 vwCl (wl g mm) U.heap ∧ lo g ≤ U.heap.size)
abbrev CB (g : gG) (m1 : gM) : Unit → State → Prop := fun _ t => va_P g.1 vwCl (wl g m1) t.heap
abbrev CI (g : gG) (m1 : gM) (r0 : Int32) := va_Qi (fun r (_ : Unit) => r = r0) (CB g m1) (gA g)
abbrev CL (g : gG) (m1 : gM) (r0 : Int64) := va_Ql (fun r (_ : Unit) => r = r0) (CB g m1) (gA g)
abbrev CF (g : gG) (m1 : gM) (r0 : UInt32) := va_Qf (fun r (_ : Unit) => r = r0) (CB g m1) (gA g)
abbrev CD (g : gG) (m1 : gM) (r0 : UInt64) := va_Qd (fun r (_ : Unit) => r = r0) (CB g m1) (gA g)
abbrev CV (g : gG) (m1 : gM) := va_Qv (fun (_ : Unit) => True) (CB g m1) (gA g)
theorem CPre.blind {g : gG} {mm : gM} {As : List Value} : FrameBlind (CPre g mm As) := fun a U gg mk ⟨h1, h2, h3, h4⟩ => ⟨h1, h2.same rfl rfl, h3, h4⟩
theorem vp_in_lt {i : Int32} {n : Nat} (h : vp_in i n) : i.toNatClampNeg < n := Nat.not_le.mp fun q => h (Or.inr q)
section RW
variable {p : Program} {l : Launch} {e : Env} {R : Room} {s : State} {m : MethodId} {args : Array Value} {below : List Frame} {meth : Method} {c : Code} {H : Heap} {locs : List Loc} {cells slots : Nat} {Q : State → Prop}
variable {cc : ByteArray} {pc : Nat} {ls : Array Slot} {rest : List Value} {g : gG} {mm : gM} {own : String}
theorem Cx_of {y : MethodName} {nL : Nat} {ret : Option FieldType} {rm : Room} {s₁ : State} (hDW : DW g) (hF : Fx g s s.heap) (hlo : lo g ≤ s.heap.size) (B : BodyLoose p l y (headSpec (Cond.code y cc nL ret :: ALLW) rm) cc nL ret e s m args below meth c s₁) : Cx g p s m args c meth y.cls cc :=
  ⟨B.exec, B.bytes, findClass_of_methodNamed B.named, fun w hw => atoms_spec (ws := Cond.code y cc nL ret :: ALLW) B.pre w (List.mem_cons_of_mem _ hw), hDW, fun q hq => Nat.le_trans hlo hq, hF, B.notSynchronized⟩
theorem r_recv (X : Cx g p s m args c meth own cc) (h : Wd g mm s H locs) (kd t : Nat) (hk : kd < 35) (ht : t < cnt kd) {ci N : Nat} {C : String} {T : u_T} {fs : List Value} (he : cel g mm kd t = .inr (ci, fs)) (hc : vwCl[ci]? = some (C, T, N)) : ∃ cellB : Cell, H[ad g kd t]? = some cellB ∧ cellB.vm.isStatics = false ∧ s.vm.findClass C = some cellB.cls := by
  obtain ⟨q0, hq⟩ := mem_allc hk ht
  obtain ⟨r, h1, cell, q1, q2, q3, -⟩ := h.1 q0 (ad g kd t, .inr (ci, fs)) (by rw [← he]; exact wl_at hq)
  have hr : r = (C, T, N) := Option.some.inj (h1.symm.trans hc)
  subst hr
  exact ⟨cell, q1, by rw [q3]; rfl, by rw [q2]; exact (X.2.2.2.2.2.2.1.1.1 ci _ hc).2.1⟩
theorem r_get (X : Cx g p s m args c meth own cc) (h : Wd g mm s H locs) (kd t : Nat) (hk : kd < 35) (ht : t < cnt kd) {ci N index : Nat} {C ref : String} {T : u_T} {fs : List Value} (he : cel g mm kd t = .inr (ci, fs)) (hc : vwCl[ci]? = some (C, T, N)) (hin : ∀ w ∈ u_ws C T N, w ∈ ALLW) (k : Nat) (hkN : k < N)
    (hlink : Cond.fieldLink own index ref (T k).2.1 (T k).2.2.1 ∈ ALLW) (hsame : ref = (T k).1) {v : Value} (hv : fs[k]? = some v) (hdg : decode cc pc = .ok (.getfield index, 3))
    (kk : W p l e R s m args below meth c H locs cells slots Q (F0 m (pc + 3) ls (v :: rest))) : W p l e R s m args below meth c H locs cells slots Q (F0 m pc ls (.ref (ad g kd t) :: rest)) := by
  obtain ⟨q0, hq⟩ := mem_allc hk ht
  exact va_get X.1 X.2.1 X.2.2.2.1 hin X.2.2.1 X.2.2.2.2.2.2.1.1 h.1 q0 (by rw [← he]; exact wl_at hq) hc k hkN (X.2.2.2.1 _ hlink) (fun x hx => by rw [hsame]; exact hx) hv hdg kk
theorem r_put (X : Cx g p s m args c meth own cc) (h : Wd g mm s H locs) (kd t : Nat) (hk : kd < 35) (ht : t < cnt kd) {ci N index : Nat} {C ref : String} {T : u_T} {fs : List Value} (ty0 : Nat → FieldType) (hty : ∀ k, k < N → parseFieldDescriptor (T k).2.2.1 = some (ty0 k)) (hnm : ∀ a, a < N → ∀ b, b < N → a ≠ b → (T a).2.1 ≠ (T b).2.1)
    (he : cel g mm kd t = .inr (ci, fs)) (hc : vwCl[ci]? = some (C, T, N)) (hin : ∀ w ∈ u_ws C T N, w ∈ ALLW) (k : Nat) (hkN : k < N) (hlink : Cond.fieldLink own index ref (T k).2.1 (T k).2.2.1 ∈ ALLW) (hsame : ref = (T k).1) (hfin : (T k).2.2.2 = false) {ty : FieldType} {v : Value} (hd : parseFieldDescriptor (T k).2.2.1 = some ty) (hn : narrow ty v = v) (hfit : fits ty v = true) (hl : k < fs.length)
    {m1 : gM} (h1 : cel g m1 kd t = .inr (ci, fs.set k v)) (h2 : ∀ c1 t1, ¬ (c1 = kd ∧ t1 = t) → cel g m1 c1 t1 = cel g mm c1 t1) (hdg : decode cc pc = .ok (.putfield index, 3))
    (kk : ∀ (H1 : Heap) (locs1 : List Loc), Wd g m1 s H1 locs1 → W p l e R s m args below meth c H1 locs1 cells slots Q (F0 m (pc + 3) ls rest)) : W p l e R s m args below meth c H locs cells slots Q (F0 m pc ls (v :: .ref (ad g kd t) :: rest)) := by
  obtain ⟨q0, hq⟩ := mem_allc hk ht
  refine va_put X.1 X.2.1 X.2.2.2.1 hin ty0 hty hnm X.2.2.1 X.2.2.2.2.2.2.1.1 h.1 (X.2.2.2.2.1.all mm) h.2 q0 (by rw [← he]; exact wl_at hq) hc k hkN (X.2.2.2.1 _ hlink) (fun x hx => by rw [hsame]; exact hx) hfin hd hn hfit hl hdg (fun H1 locs1 g1 g2 g3 => ?_)
  rw [wl_set hq h1 h2] at g1
  exact kk H1 locs1 ⟨g1, g3⟩
theorem r_iald (X : Cx g p s m args c meth own cc) (h : Wd g mm s H locs) (kd t : Nat) (hk : kd < 35) (ht : t < cnt kd) {n : Nat} (he : cel g mm kd t = .inl (ca g 0, n, .inl (fun i => gi mm kd t i))) {i : Int32} (hi : vp_in i n) (hdg : decode cc pc = .ok (.iaload, 1))
    (kk : W p l e R s m args below meth c H locs cells slots Q (F0 m (pc + 1) ls (.int (gi mm kd t i.toNatClampNeg) :: rest))) : W p l e R s m args below meth c H locs cells slots Q (F0 m pc ls (.int i :: .ref (ad g kd t) :: rest)) := by
  obtain ⟨q0, hq⟩ := mem_allc hk ht
  exact va_iald X.1 X.2.1 X.2.2.2.2.2.2.1.1 h.1 q0 0 (by rw [← he]; exact wl_at hq) rfl hi hdg kk
theorem r_iast (X : Cx g p s m args c meth own cc) (h : Wd g mm s H locs) (kd t : Nat) (hk : kd < 35) (ht : t < cnt kd) {n : Nat} (he : ∀ mm, cel g mm kd t = .inl (ca g 0, n, .inl (fun i => gi mm kd t i))) {i x : Int32} (hi : vp_in i n) (hdg : decode cc pc = .ok (.iastore, 1))
    (kk : ∀ (H1 : Heap) (locs1 : List Loc), Wd g (si mm kd t i.toNatClampNeg (x)) s H1 locs1 → W p l e R s m args below meth c H1 locs1 cells slots Q (F0 m (pc + 1) ls rest)) : W p l e R s m args below meth c H locs cells slots Q (F0 m pc ls (.int x :: .int i :: .ref (ad g kd t) :: rest)) := by
  obtain ⟨q0, hq⟩ := mem_allc hk ht
  refine va_iast X.1 X.2.1 X.2.2.2.2.2.2.1.1 h.1 (X.2.2.2.2.1.all mm) h.2 q0 0 (by rw [← he mm]; exact wl_at hq) rfl hi hdg (fun H1 locs1 g1 g2 g3 => ?_)
  rw [wl_set hq (m1 := si mm kd t i.toNatClampNeg (x)) (by rw [he, si_upd]) si_off] at g1
  exact kk H1 locs1 ⟨g1, g3⟩
theorem r_zald (X : Cx g p s m args c meth own cc) (h : Wd g mm s H locs) (kd t : Nat) (hk : kd < 35) (ht : t < cnt kd) {n : Nat} (he : cel g mm kd t = .inl (ca g 1, n, .inl (fun i => gi mm kd t i))) {i : Int32} (hi : vp_in i n) (hdg : decode cc pc = .ok (.baload, 1))
    (kk : W p l e R s m args below meth c H locs cells slots Q (F0 m (pc + 1) ls (.int (gi mm kd t i.toNatClampNeg) :: rest))) : W p l e R s m args below meth c H locs cells slots Q (F0 m pc ls (.int i :: .ref (ad g kd t) :: rest)) := by
  obtain ⟨q0, hq⟩ := mem_allc hk ht
  exact va_zald X.1 X.2.1 X.2.2.2.2.2.2.1.1 h.1 q0 1 (by rw [← he]; exact wl_at hq) rfl hi hdg kk
theorem r_zast (X : Cx g p s m args c meth own cc) (h : Wd g mm s H locs) (kd t : Nat) (hk : kd < 35) (ht : t < cnt kd) {n : Nat} (he : ∀ mm, cel g mm kd t = .inl (ca g 1, n, .inl (fun i => gi mm kd t i))) {i x : Int32} (hi : vp_in i n) (hdg : decode cc pc = .ok (.bastore, 1))
    (kk : ∀ (H1 : Heap) (locs1 : List Loc), Wd g (si mm kd t i.toNatClampNeg (vp_nar .boolean x)) s H1 locs1 → W p l e R s m args below meth c H1 locs1 cells slots Q (F0 m (pc + 1) ls rest)) : W p l e R s m args below meth c H locs cells slots Q (F0 m pc ls (.int x :: .int i :: .ref (ad g kd t) :: rest)) := by
  obtain ⟨q0, hq⟩ := mem_allc hk ht
  refine va_zast X.1 X.2.1 X.2.2.2.2.2.2.1.1 h.1 (X.2.2.2.2.1.all mm) h.2 q0 1 (by rw [← he mm]; exact wl_at hq) rfl hi hdg (fun H1 locs1 g1 g2 g3 => ?_)
  rw [wl_set hq (m1 := si mm kd t i.toNatClampNeg (vp_nar .boolean x)) (by rw [he, si_upd]) si_off] at g1
  exact kk H1 locs1 ⟨g1, g3⟩
theorem r_cald (X : Cx g p s m args c meth own cc) (h : Wd g mm s H locs) (kd t : Nat) (hk : kd < 35) (ht : t < cnt kd) {n : Nat} (he : cel g mm kd t = .inl (ca g 2, n, .inl (fun i => gi mm kd t i))) {i : Int32} (hi : vp_in i n) (hdg : decode cc pc = .ok (.caload, 1))
    (kk : W p l e R s m args below meth c H locs cells slots Q (F0 m (pc + 1) ls (.int (gi mm kd t i.toNatClampNeg) :: rest))) : W p l e R s m args below meth c H locs cells slots Q (F0 m pc ls (.int i :: .ref (ad g kd t) :: rest)) := by
  obtain ⟨q0, hq⟩ := mem_allc hk ht
  exact va_cald X.1 X.2.1 X.2.2.2.2.2.2.1.1 h.1 q0 2 (by rw [← he]; exact wl_at hq) rfl hi hdg kk
theorem r_cast (X : Cx g p s m args c meth own cc) (h : Wd g mm s H locs) (kd t : Nat) (hk : kd < 35) (ht : t < cnt kd) {n : Nat} (he : ∀ mm, cel g mm kd t = .inl (ca g 2, n, .inl (fun i => gi mm kd t i))) {i x : Int32} (hi : vp_in i n) (hdg : decode cc pc = .ok (.castore, 1))
    (kk : ∀ (H1 : Heap) (locs1 : List Loc), Wd g (si mm kd t i.toNatClampNeg (vp_nar .char x)) s H1 locs1 → W p l e R s m args below meth c H1 locs1 cells slots Q (F0 m (pc + 1) ls rest)) : W p l e R s m args below meth c H locs cells slots Q (F0 m pc ls (.int x :: .int i :: .ref (ad g kd t) :: rest)) := by
  obtain ⟨q0, hq⟩ := mem_allc hk ht
  refine va_cast X.1 X.2.1 X.2.2.2.2.2.2.1.1 h.1 (X.2.2.2.2.1.all mm) h.2 q0 2 (by rw [← he mm]; exact wl_at hq) rfl hi hdg (fun H1 locs1 g1 g2 g3 => ?_)
  rw [wl_set hq (m1 := si mm kd t i.toNatClampNeg (vp_nar .char x)) (by rw [he, si_upd]) si_off] at g1
  exact kk H1 locs1 ⟨g1, g3⟩
theorem r_copy (X : Cx g p s m args c meth own cc) (h : Wd g mm s H locs) (hml : c.maxLocals = ls.size) (kd t k0 t0 : Nat) (hk : kd < 35) (ht : t < cnt kd) (hk0 : k0 < 35) (ht0 : t0 < cnt k0) {n n0 index : Nat} (he : ∀ mm, cel g mm kd t = .inl (ca g 0, n, .inl (fun i => gi mm kd t i))) (he0 : cel g mm k0 t0 = .inl (ca g 0, n0, .inl (fun i => gi mm k0 t0 i)))
    (hlink : Cond.methodLink own index arraycopyName ∈ ALLW) (hnat : Cond.native arraycopyName ∈ ALLW) (hstat : Cond.static arraycopyName ∈ ALLW) (hini : Cond.initialized "java/lang/System" ∈ ALLW) {z : Int32}
    (h3 : ¬ z < 0) (h4 : z.toNatClampNeg ≤ n0) (h5 : z.toNatClampNeg ≤ n) (hframes : 1 ≤ R.frames) (hlocals : (rest.map fun v => v.category).sum + (nativeFrameWords "java/lang/System" "arraycopy" 5 + 11) ≤ R.locals) (hdg : decode cc pc = .ok (.invokestatic index, 3))
    (kk : ∀ (H1 : Heap) (locs1 : List Loc), Wd g (cy mm kd t k0 t0 0 0 z.toNatClampNeg) s H1 locs1 → W p l e R s m args below meth c H1 locs1 cells slots Q (F0 m (pc + 3) ls rest)) : W p l e R s m args below meth c H locs cells slots Q (F0 m pc ls (.int z :: .int 0 :: .ref (ad g kd t) :: .int 0 :: .ref (ad g k0 t0) :: rest)) := by
  obtain ⟨q1, hq1⟩ := mem_allc hk ht
  obtain ⟨q0, hq0⟩ := mem_allc hk0 ht0
  refine va_copyi X.1 X.2.1 hml X.2.2.1 (X.2.2.2.1 _ hlink) (X.2.2.2.1 _ hnat) (X.2.2.2.1 _ hstat) (X.2.2.2.1 _ hini) X.2.2.2.2.2.2.1.1 h.1 (X.2.2.2.2.1.all mm) h.2 q0 q1 0 0 (ty := .int) (by rw [← he0]; exact wl_at hq0) (by rw [← he mm]; exact wl_at hq1) rfl rfl rfl (by decide) (by decide) h3 (by show 0 + _ ≤ _; omega) (by show 0 + _ ≤ _; omega) (fun i _ => rfl) hframes hlocals hdg (fun H1 locs1 g1 g2 g3 => ?_)
  rw [wl_set hq1 (m1 := cy mm kd t k0 t0 0 0 z.toNatClampNeg) (by rw [he, cy_upd]; rfl) cy_off] at g1
  exact kk H1 locs1 ⟨g1, g3⟩
theorem r_last (X : Cx g p s m args c meth own cc) (h : Wd g mm s H locs) {i : Int32} {x : Int64} (hi : vp_in i 1) (hdg : decode cc pc = .ok (.lastore, 1))
    (kk : ∀ (H1 : Heap) (locs1 : List Loc), Wd g (sl mm 34 0 x) s H1 locs1 → W p l e R s m args below meth c H1 locs1 cells slots Q (F0 m (pc + 1) ls rest)) : W p l e R s m args below meth c H locs cells slots Q (F0 m pc ls (.long x :: .int i :: .ref (ad g 34 0) :: rest)) := by
  obtain ⟨q0, hq⟩ := mem_allc (c := 34) (t := 0) (by decide) (by decide)
  refine va_last X.1 X.2.1 X.2.2.2.2.2.2.1.1 h.1 (X.2.2.2.2.1.all mm) h.2 q0 3 (n := 1) (f := fun _ => gl mm 34 0) (wl_at hq) rfl hi hdg (fun H1 locs1 g1 g2 g3 => ?_)
  have h0 : i.toNatClampNeg = 0 := by have := vp_in_lt hi; omega
  have e1 : va_P g.1 vwCl (wl g (sl mm 34 0 x)) H1 := by
    intro k q hk
    obtain ⟨y, hy, rfl⟩ := wl_get hk
    by_cases hc : y = (34, 0)
    · subst hc
      have hkq : k = q0 := allc_inj hy hq
      subst hkq
      have hlt := (List.getElem?_eq_some_iff.mp (wl_at (g := g) (mm := mm) hq)).1
      have g4 := g1 k _ (List.getElem?_set_self hlt)
      refine Eq.trans g4 ?_
      have hs : (Array.ofFn (n := 1) fun j => Value.long (vp_updL (fun _ => gl mm 34 0) i.toNatClampNeg x j.val)) = Array.ofFn (n := 1) fun _ => Value.long (gl (sl mm 34 0 x) 34 0) := congrArg _ (funext fun j => by
        have hj : j.val = 0 := by omega
        simp [vp_updL, h0, gl_sl, hj])
      show some (arrV (ca g 3) 1 (fun j => .long (vp_updL (fun _ => gl mm 34 0) i.toNatClampNeg x j))) = some (arrV (ca g 3) 1 (fun _ => .long (gl (sl mm 34 0 x) 34 0)))
      unfold arrV
      rw [hs]
    · have hne : k ≠ q0 := fun z => hc (by rw [z] at hy; exact Option.some.inj (hy.symm.trans hq))
      have g4 := g1 k (ad g y.1 y.2, cel g mm y.1 y.2) (by rw [List.getElem?_set_ne (Ne.symm hne)]; exact wl_at hy)
      rw [sl_off y.1 y.2 (fun z => hc (by obtain ⟨a, b⟩ := y; obtain ⟨z1, z2⟩ := z; dsimp only at z1 z2; rw [z1, z2]))]
      exact g4
  exact kk H1 locs1 ⟨e1, g3⟩
theorem e_i {m1 : gM} {v r0 : Int32} (X : Cx g p s m args c meth own cc) (hr : meth.sig.returnType = some .int) (h : Wd g m1 s H locs) (hv : v = r0) (hdg : decode cc pc = .ok (.ireturn, 1)) : W p l e R s m args below meth c H locs cells slots (MQ below (CI g m1 r0) args s cells slots (gA g)) (F0 m pc ls [.int v]) :=
  W.iret X.1 X.2.1 hr (fun t ht _ => ⟨⟨v, (), rfl, hv, by show va_P _ _ _ t.heap; rw [ht]; exact h.1⟩, h.2.F ht⟩) h.2.2.2 hdg X.2.2.2.2.2.2.2
theorem e_z {m1 : gM} {v r0 : Int32} {ty : FieldType} (X : Cx g p s m args c meth own cc) (hr : meth.sig.returnType = some ty) (h : Wd g m1 s H locs) (hn : narrow ty (.int v) = .int v) (hv : v = r0) (hdg : decode cc pc = .ok (.ireturn, 1)) : W p l e R s m args below meth c H locs cells slots (MQ below (CI g m1 r0) args s cells slots (gA g)) (F0 m pc ls [.int v]) :=
  W.zret X.1 X.2.1 hr hn (fun t ht _ => ⟨⟨v, (), rfl, hv, by show va_P _ _ _ t.heap; rw [ht]; exact h.1⟩, h.2.F ht⟩) h.2.2.2 hdg X.2.2.2.2.2.2.2
theorem e_l {m1 : gM} {v r0 : Int64} (X : Cx g p s m args c meth own cc) (hr : meth.sig.returnType = some .long) (h : Wd g m1 s H locs) (hv : v = r0) (hdg : decode cc pc = .ok (.lreturn, 1)) : W p l e R s m args below meth c H locs cells slots (MQ below (CL g m1 r0) args s cells slots (gA g)) (F0 m pc ls [.long v]) :=
  W.lret X.1 X.2.1 hr (fun t ht _ => ⟨⟨v, (), rfl, hv, by show va_P _ _ _ t.heap; rw [ht]; exact h.1⟩, h.2.F ht⟩) h.2.2.2 hdg X.2.2.2.2.2.2.2
theorem e_f {m1 : gM} {v r0 : UInt32} (X : Cx g p s m args c meth own cc) (hr : meth.sig.returnType = some .float) (h : Wd g m1 s H locs) (hv : v = r0) (hdg : decode cc pc = .ok (.freturn, 1)) : W p l e R s m args below meth c H locs cells slots (MQ below (CF g m1 r0) args s cells slots (gA g)) (F0 m pc ls [.float v]) :=
  W.fret X.1 X.2.1 hr (fun t ht _ => ⟨⟨v, (), rfl, hv, by show va_P _ _ _ t.heap; rw [ht]; exact h.1⟩, h.2.F ht⟩) h.2.2.2 hdg X.2.2.2.2.2.2.2
theorem e_d {m1 : gM} {v r0 : UInt64} (X : Cx g p s m args c meth own cc) (hr : meth.sig.returnType = some .double) (h : Wd g m1 s H locs) (hv : v = r0) (hdg : decode cc pc = .ok (.dreturn, 1)) : W p l e R s m args below meth c H locs cells slots (MQ below (CD g m1 r0) args s cells slots (gA g)) (F0 m pc ls [.double v]) :=
  W.dret X.1 X.2.1 hr (fun t ht _ => ⟨⟨v, (), rfl, hv, by show va_P _ _ _ t.heap; rw [ht]; exact h.1⟩, h.2.F ht⟩) h.2.2.2 hdg X.2.2.2.2.2.2.2
theorem e_v {m1 : gM} (X : Cx g p s m args c meth own cc) (hr : meth.sig.returnType = none) (h : Wd g m1 s H locs) (hdg : decode cc pc = .ok (.return_, 1)) : W p l e R s m args below meth c H locs cells slots (MQ below (CV g m1) args s cells slots (gA g)) (F0 m pc ls []) :=
  W.vret X.1 X.2.1 hr (fun t ht _ => ⟨⟨(), rfl, trivial, by show va_P _ _ _ t.heap; rw [ht]; exact h.1⟩, h.2.F ht⟩) h.2.2.2 hdg X.2.2.2.2.2.2.2
/-- the heads of calls: by a name in the receiver's class (V), static (S), static of a nest mate (N) -/
abbrev kOk (R : Room) (rm : Room) (mc ms maxL : Nat) (y : MethodName) (n : Nat) : Prop := (rm.cells = mc ∧ rm.slots = ms) ∧ (y.cls ≠ "java/lang/invoke/MethodHandle" ∧ y.cls ≠ "java/lang/invoke/VarHandle" ∧ (parseMethodDescriptor y.desc).map (fun d => d.parameters.length) = some n) ∧ (rm.frames + 1 ≤ R.frames ∧ 8 + (maxL + 11) + rm.locals ≤ R.locals)
abbrev kWV (own : String) (index : Nat) (y : MethodName) (bytes : ByteArray) (maxL : Nat) (ret : Option FieldType) : Prop := Cond.methodLink own index y ∈ ALLW ∧ Cond.instanceMethod y ∈ ALLW ∧ Cond.selects y.cls y y ∈ ALLW ∧ Cond.initialized y.cls ∈ ALLW ∧ Cond.code y bytes maxL ret ∈ ALLW
abbrev kWS (own : String) (index : Nat) (y : MethodName) (bytes : ByteArray) (maxL : Nat) (ret : Option FieldType) : Prop := Cond.methodLink own index y ∈ ALLW ∧ Cond.static y ∈ ALLW ∧ Cond.initialized y.cls ∈ ALLW ∧ Cond.code y bytes maxL ret ∈ ALLW
abbrev kWN (y : MethodName) (bytes : ByteArray) (maxL : Nat) (ret : Option FieldType) : Prop := Cond.static y ∈ ALLW ∧ Cond.initialized y.cls ∈ ALLW ∧ Cond.code y bytes maxL ret ∈ ALLW
theorem k_B {y : MethodName} {bytes : ByteArray} {maxL mc ms n index : Nat} {ret : Option FieldType} {rm : Room} (X : Cx g p s m args c meth own cc) (ok : kOk R rm mc ms maxL y n) (hl : Cond.methodLink own index y ∈ ALLW) (hi : Cond.initialized y.cls ∈ ALLW) (hc : Cond.code y bytes maxL ret ∈ ALLW) : CallB R s args own index y bytes maxL ret (Cond.code y bytes maxL ret :: ALLW) rm mc ms n :=
  callB_of n X.2.2.2.1 (ALLW_cons hc) rfl ok.1.1 ok.1.2 (X.2.2.2.1 _ hi) (X.2.2.2.1 _ hl) ok.2.1 ok.2.2
theorem k_pre (X : Cx g p s m args c meth own cc) (h : Wd g mm s H locs) (As : List Value) : ∀ U : State, U.heap = H → s.WarmedH U.vm → CPre g mm As As.toArray U := fun U hU hW =>
  ⟨rfl, X.2.2.2.2.2.2.1.go h.2 hU hW, by rw [hU]; exact h.1, by rw [hU]; exact Nat.le_trans (X.2.2.2.2.2.1 _ (Nat.le_refl _)) h.2.1⟩
theorem k_V {y : MethodName} {bytes : ByteArray} {maxL mc ms n index nL : Nat} {ret : Option FieldType} {rm : Room} {b : Nat} {As st : List Value} {Qc : Array Value → State → Outcome → State → Prop} (X : Cx g p s m args c meth own cc) (h : Wd g mm s H locs) (hml : c.maxLocals = nL) (hls : ls.size = nL)
    (hM : Met l y (Cond.code y bytes maxL ret :: ALLW) rm (CPre g mm (.ref b :: As)) Qc mc ms (gA g)) (hrec : ∃ cellB : Cell, H[b]? = some cellB ∧ cellB.vm.isStatics = false ∧ s.vm.findClass y.cls = some cellB.cls) (hw : kWV own index y bytes maxL ret) (ok : kOk R rm mc ms maxL y n)
    (hn : As.length = n) (hst : st = As.reverse ++ .ref b :: rest) (hW : (rest.map fun v => v.category).sum ≤ 8) (hdg : decode cc pc = .ok (.invokevirtual index, 3)) (hf : cells + mc ≤ R.cells ∧ slots + ms ≤ R.slots) : va_Run p l e R s m args below meth c H locs cells slots mc ms (F0 m pc ls st) rest (Qc (Value.ref b :: As).toArray) (gA g) :=
  va_runV ⟨X.1, X.2.1, hml, X.2.2.1, X.2.2.2.1⟩ hM ⟨k_B X ok hw.1 hw.2.2.2.1 hw.2.2.2.2, X.2.2.2.1 _ hw.2.1, X.2.2.2.1 _ hw.2.2.1⟩ ⟨CPre.blind, hrec, k_pre X h _⟩ rfl hn hls hst (by show 2 * 0 + _ ≤ 8; omega) hdg hf
theorem k_S {y : MethodName} {bytes : ByteArray} {maxL mc ms n index nL : Nat} {ret : Option FieldType} {rm : Room} {As st : List Value} {Qc : Array Value → State → Outcome → State → Prop} (X : Cx g p s m args c meth own cc) (h : Wd g mm s H locs) (hml : c.maxLocals = nL) (hls : ls.size = nL)
    (hM : Met l y (Cond.code y bytes maxL ret :: ALLW) rm (CPre g mm As) Qc mc ms (gA g)) (hw : kWS own index y bytes maxL ret) (ok : kOk R rm mc ms maxL y n)
    (hn : As.length = n) (hst : st = As.reverse ++ rest) (hW : (rest.map fun v => v.category).sum ≤ 8) (hdg : decode cc pc = .ok (.invokestatic index, 3)) (hf : cells + mc ≤ R.cells ∧ slots + ms ≤ R.slots) : va_Run p l e R s m args below meth c H locs cells slots mc ms (F0 m pc ls st) rest (Qc As.toArray) (gA g) :=
  va_runS ⟨X.1, X.2.1, hml, X.2.2.1, X.2.2.2.1⟩ hM ⟨k_B X ok hw.1 hw.2.2.1 hw.2.2.2, X.2.2.2.1 _ hw.2.1⟩ ⟨CPre.blind, k_pre X h _⟩ rfl hn hls hst (by show 2 * 0 + _ ≤ 8; omega) hdg hf
theorem k_N {y : MethodName} {bytes : ByteArray} {maxL mc ms n index nL : Nat} {ret : Option FieldType} {rm : Room} {host : String} {As st : List Value} {Qc : Array Value → State → Outcome → State → Prop} (X : Cx g p s m args c meth own cc) (h : Wd g mm s H locs) (hml : c.maxLocals = nL) (hls : ls.size = nL)
    (hM : Met l y (Cond.code y bytes maxL ret :: ALLW) rm (CPre g mm As) Qc mc ms (gA g)) (hl : va_Nw (.methodLinkNest own index y host) s) (hw : kWN y bytes maxL ret) (ok : kOk R rm mc ms maxL y n)
    (hn : As.length = n) (hst : st = As.reverse ++ rest) (hW : (rest.map fun v => v.category).sum ≤ 8) (hdg : decode cc pc = .ok (.invokestatic index, 3)) (hf : cells + mc ≤ R.cells ∧ slots + ms ≤ R.slots) : va_Run p l e R s m args below meth c H locs cells slots mc ms (F0 m pc ls st) rest (Qc As.toArray) (gA g) :=
  va_runSN ⟨X.1, X.2.1, hml, X.2.2.1, X.2.2.2.1⟩ hM ⟨va_cnB n X.2.2.2.1 (ALLW_cons hw.2.2) rfl ok.1.1 ok.1.2 hl (X.2.2.2.1 _ hw.2.1) ok.2.1 ok.2.2, X.2.2.2.1 _ hw.1, trivial⟩ ⟨CPre.blind, k_pre X h _⟩ rfl hn hls hst (by show 2 * 0 + _ ≤ 8; omega) hdg hf
theorem k_i {m1 : gM} {r0 : Int32} {mc ms : Nat} {a : Array Value} {st : List Value} (X : Cx g p s m args c meth own cc) (h : Wd g mm s H locs) (hr : va_Run p l e R s m args below meth c H locs cells slots mc ms (F0 m pc ls st) rest (CI g m1 r0 a) (gA g))
    (kk : ∀ (H1 : Heap) (locs1 : List Loc), Wd g m1 s H1 locs1 → W p l e R s m args below meth c H1 locs1 (cells + mc) (slots + ms) Q (F0 m (pc + 3) ls (.int r0 :: rest))) : W p l e R s m args below meth c H locs cells slots Q (F0 m pc ls st) :=
  va_calli hr h.2 (fun _ _ z => z) (fun _ z => z) (fun r u t H1 locs1 ht hvm hp hB hz hk hS => by subst hp; exact kk H1 locs1 ⟨by rw [← ht]; exact hB, hS⟩)
theorem k_l {m1 : gM} {r0 : Int64} {mc ms : Nat} {a : Array Value} {st : List Value} (X : Cx g p s m args c meth own cc) (h : Wd g mm s H locs) (hr : va_Run p l e R s m args below meth c H locs cells slots mc ms (F0 m pc ls st) rest (CL g m1 r0 a) (gA g))
    (kk : ∀ (H1 : Heap) (locs1 : List Loc), Wd g m1 s H1 locs1 → W p l e R s m args below meth c H1 locs1 (cells + mc) (slots + ms) Q (F0 m (pc + 3) ls (.long r0 :: rest))) : W p l e R s m args below meth c H locs cells slots Q (F0 m pc ls st) :=
  va_calll hr h.2 (fun _ _ z => z) (fun _ z => z) (fun r u t H1 locs1 ht hvm hp hB hz hk hS => by subst hp; exact kk H1 locs1 ⟨by rw [← ht]; exact hB, hS⟩)
theorem k_f {m1 : gM} {r0 : UInt32} {mc ms : Nat} {a : Array Value} {st : List Value} (X : Cx g p s m args c meth own cc) (h : Wd g mm s H locs) (hr : va_Run p l e R s m args below meth c H locs cells slots mc ms (F0 m pc ls st) rest (CF g m1 r0 a) (gA g))
    (kk : ∀ (H1 : Heap) (locs1 : List Loc), Wd g m1 s H1 locs1 → W p l e R s m args below meth c H1 locs1 (cells + mc) (slots + ms) Q (F0 m (pc + 3) ls (.float r0 :: rest))) : W p l e R s m args below meth c H locs cells slots Q (F0 m pc ls st) :=
  va_callf hr h.2 (fun _ _ z => z) (fun _ z => z) (fun r u t H1 locs1 ht hvm hp hB hz hk hS => by subst hp; exact kk H1 locs1 ⟨by rw [← ht]; exact hB, hS⟩)
theorem k_d {m1 : gM} {r0 : UInt64} {mc ms : Nat} {a : Array Value} {st : List Value} (X : Cx g p s m args c meth own cc) (h : Wd g mm s H locs) (hr : va_Run p l e R s m args below meth c H locs cells slots mc ms (F0 m pc ls st) rest (CD g m1 r0 a) (gA g))
    (kk : ∀ (H1 : Heap) (locs1 : List Loc), Wd g m1 s H1 locs1 → W p l e R s m args below meth c H1 locs1 (cells + mc) (slots + ms) Q (F0 m (pc + 3) ls (.double r0 :: rest))) : W p l e R s m args below meth c H locs cells slots Q (F0 m pc ls st) :=
  va_calld hr h.2 (fun _ _ z => z) (fun _ z => z) (fun r u t H1 locs1 ht hvm hp hB hz hk hS => by subst hp; exact kk H1 locs1 ⟨by rw [← ht]; exact hB, hS⟩)
theorem k_v {m1 : gM} {mc ms : Nat} {a : Array Value} {st : List Value} (X : Cx g p s m args c meth own cc) (h : Wd g mm s H locs) (hr : va_Run p l e R s m args below meth c H locs cells slots mc ms (F0 m pc ls st) rest (CV g m1 a) (gA g))
    (kk : ∀ (H1 : Heap) (locs1 : List Loc), Wd g m1 s H1 locs1 → W p l e R s m args below meth c H1 locs1 (cells + mc) (slots + ms) Q (F0 m (pc + 3) ls rest)) : W p l e R s m args below meth c H locs cells slots Q (F0 m pc ls st) :=
  va_callv hr h.2 (fun _ _ z => z) (fun _ z => z) (fun u t H1 locs1 ht hvm hp hB hz hk hS => kk H1 locs1 ⟨by rw [← ht]; exact hB, hS⟩)
end RW
