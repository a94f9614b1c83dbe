/-! CONSTRUCTORS: what holds at their start, rows -/
def Ci (g : gG) (p : Program) (s : State) (m : MethodId) (args : Array Value) (c : Code) (meth : Method) (own : String) (cc : ByteArray) : Prop :=
  p.tables.exec = Jvm.exec ∧ c.code = cc ∧ s.vm.findClass own = some m.cls ∧ (∀ w ∈ ALLW, w.before args s = true) ∧ Fx g s s.heap ∧ meth.locks = false ∧ True
def IPre (g : gG) (sz h0 : Nat) (e0 : va_E) : Array Value → State → Prop := va_Pc [.ref h0] (fun U => Fx g U U.heap ∧ U.heap.size = sz ∧ lo g ≤ h0 ∧ lo g ≤ U.heap.size ∧ va_AO "LitDigits$State" U ∧ va_P g.1 vwCl [(h0, e0)] U.heap)
theorem IPre.blind {g : gG} {sz h0 : Nat} {e0 : va_E} : FrameBlind (IPre g sz h0 e0) := fun a U gg mk ⟨h1, h2, h3, h4, h5, h6, h7⟩ => ⟨h1, h2.same rfl rfl, h3, h4, h5, va_AO.moved (u := U) (Vm.Alike.refl U.vm) h6, h7⟩
theorem va_D1 (a : Nat) (e : va_E) : va_D (fun _ => True) [(a, e)] := ⟨fun i j p q hi hj _ => by
  have h1 : i < 1 := (List.getElem?_eq_some_iff.mp hi).1
  have h2 : j < 1 := (List.getElem?_eq_some_iff.mp hj).1
  omega, fun _ _ _ => trivial⟩
theorem i_Ag {g : gG} {h0 sz : Nat} {e0 : va_E} (h : lo g ≤ h0) (hs : lo g ≤ sz) : ∀ q, va_A [(h0, e0)] sz q → gA g q := by
  intro q hq
  rcases hq with ⟨k, e, hk⟩ | hq
  · have h1 : k < 1 := (List.getElem?_eq_some_iff.mp hk).1
    rw [show k = 0 by omega] at hk
    cases hk
    exact h
  · exact Nat.le_trans hs hq
theorem va_S.weak {A B : Nat → Prop} {H0 H : Heap} {locs : List Loc} (h : va_S A H0 H locs) (hAB : ∀ q, A q → B q) : va_S B H0 H locs := ⟨h.1, fun q h1 h2 => h.2.1 q h1 (fun z => h2 (hAB q z)), fun l hl => hAB _ (h.2.2 l hl)⟩
def LPre (g : gG) (sz h0 qs : Nat) (f : Nat → Int32) (fs : List Value) (sl wh v : Int32) : Array Value → State → Prop := va_Pc [.ref h0, .int sl, .int wh, .int v] (fun U => Fx g U U.heap ∧ U.heap.size = sz ∧ va_P g.1 vwCl [(h0, .inr (6, fs)), (qs, .inl (ca g 0, 80, .inl f))] U.heap ∧ va_D (fun _ => True) [(h0, .inr (6, fs)), (qs, .inl (ca g 0, 80, .inl f))])
theorem LPre.blind {g : gG} {sz h0 qs : Nat} {f : Nat → Int32} {fs : List Value} {sl wh v : Int32} : FrameBlind (LPre g sz h0 qs f fs sl wh v) := fun a U gg mk ⟨h1, h2, h3, h4, h5⟩ => ⟨h1, h2.same rfl rfl, h3, h4, h5⟩
section RI
variable {p : Program} {l : Launch} {e : Env} {R : Room} {s : State} {m : MethodId} {args : Array Value} {below : List Frame} {meth : Method} {c : Code} {H : Heap} {locs : List Loc} {cells slots : Nat} {Q : State → Prop}
variable {cc : ByteArray} {pc : Nat} {ls : Array Slot} {rest st : List Value} {g : gG} {own : String} {index : Nat} {A : Nat → Prop} {ws : va_W}
theorem Ci_of {y : MethodName} {nL : Nat} {ret : Option FieldType} {rm : Room} {s₁ : State} {w0 : Cond} (hF : Fx g s s.heap) (B : BodyLoose p l y (headSpec (w0 :: ALLW) rm) cc nL ret e s m args below meth c s₁) : Ci g p s m args c meth y.cls cc :=
  ⟨B.exec, B.bytes, findClass_of_methodNamed B.named, fun w hw => atoms_spec (ws := w0 :: ALLW) B.pre w (List.mem_cons_of_mem _ hw), hF, B.notSynchronized, trivial⟩
theorem i_ca {D : va_G} {cl : List vw_C} {tys : List (ClassId × FieldType)} {k : Nat} {c0 cA : ClassId} {ty : FieldType} (hnr : ∀ C, ty ≠ .object C) (hk : tys[k]? = some (c0, ty)) (hK : va_K D cl (tys ++ [(cA, ty)]) s) : cA = c0 := by
  have h1 := (hK.2 k (c0, ty) (by rw [List.getElem?_append_left (List.getElem?_eq_some_iff.mp hk).1]; exact hk)).2
  have h2 := (hK.2 tys.length (cA, ty) (by rw [List.getElem?_append_right (Nat.le_refl _)]; simp)).2
  cases ty with
  | object C => exact absurd rfl (hnr C)
  | _ => exact Option.some.inj (Eq.trans (Eq.symm (show s.vm.findClass _ = some cA from h2)) (show s.vm.findClass _ = some c0 from h1))
theorem i_caq {D : va_G} {cl : List vw_C} {tys : List (ClassId × FieldType)} {k : Nat} {c0 cA : ClassId} {C : String} (hk : tys[k]? = some (c0, .object C)) (hK : va_K D cl (tys ++ [(cA, .object C)]) s) : cA = c0 := by
  obtain ⟨_, _, _, _, _, h1⟩ := (hK.2 k (c0, .object C) (by rw [List.getElem?_append_left (List.getElem?_eq_some_iff.mp hk).1]; exact hk)).2
  obtain ⟨_, _, _, _, _, h2⟩ := (hK.2 tys.length (cA, .object C) (by rw [List.getElem?_append_right (Nat.le_refl _)]; simp)).2
  exact Option.some.inj (h2.symm.trans h1)
theorem i_newa (Y : Ci g p s m args c meth own cc) (hP : va_P g.1 vwCl ws H) (hD : va_D A ws) (hS : va_S A s.heap H locs) (hA : ∀ q, s.heap.size ≤ q → A q) {atype : ArrayType} {ty : FieldType} (hty : newarray.typeOf atype = ty) (k : Nat) (hk : (tys g)[k]? = some (ca g k, ty)) (hnr : ∀ C, ty ≠ .object C) (harr : Cond.arrayClass ty ∈ ALLW)
    {n : Int32} {N' : Nat} {a0 : vp_A} (ha : ∀ cA : ClassId, vp_cell cA a0 = arrV cA N' (fun _ => defaultValue ty)) (hn : ¬ n < 0) (hN : n.toNatClampNeg = N') (hbytes : N' * componentBytes ty ≤ 536870912) (hcells : cells + 1 ≤ R.cells) (hslots : slots + N' ≤ R.slots) (hdg : decode cc pc = .ok (.newarray atype, 2))
    (kk : ∀ (q : Nat) (H1 : Heap), va_P g.1 vwCl (ws ++ [(q, .inl (ca g k, a0))]) H1 → va_D A (ws ++ [(q, .inl (ca g k, a0))]) → va_S A s.heap H1 locs →
      W p l e R s m args below meth c H1 locs (cells + 1) (slots + N') Q (F0 m (pc + 2) ls (.ref q :: rest))) : W p l e R s m args below meth c H locs cells slots Q (F0 m pc ls (.int n :: rest)) := by
  refine va_newa Y.1 Y.2.1 (by rw [hty]; exact Y.2.2.2.1 _ harr) hty Y.2.2.2.2.1.1 hP hD hS hA ha hn hN hbytes hcells hslots hdg (fun q cA H1 hK1 g1 g2 g3 => ?_)
  have hc := i_ca hnr hk hK1
  subst hc
  exact kk q H1 g1 g2 g3
theorem i_newq (Y : Ci g p s m args c meth own cc) (hO : va_AO "LitDigits$State" s) (hlink : Cond.classLink own index "LitDigits$State" ∈ ALLW) (hP : va_P g.1 vwCl ws H) (hD : va_D A ws) (hS : va_S A s.heap H locs) (hA : ∀ q, s.heap.size ≤ q → A q)
    {n : Int32} {N' : Nat} (hn : ¬ n < 0) (hN : n.toNatClampNeg = N') (hbytes : N' * 4 ≤ 536870912) (hcells : cells + 1 ≤ R.cells) (hslots : slots + N' ≤ R.slots) (hdg : decode cc pc = .ok (.anewarray index, 3))
    (kk : ∀ (q : Nat) (H1 : Heap), va_P g.1 vwCl (ws ++ [(q, .inl (ca g 4, N', .inr (.inr (.inr (.inr (fun _ => none))))))]) H1 → va_D A (ws ++ [(q, .inl (ca g 4, N', .inr (.inr (.inr (.inr (fun _ => none))))))]) → va_S A s.heap H1 locs →
      W p l e R s m args below meth c H1 locs (cells + 1) (slots + N') Q (F0 m (pc + 3) ls (.ref q :: rest))) : W p l e R s m args below meth c H locs cells slots Q (F0 m pc ls (.int n :: rest)) := by
  refine va_newq Y.1 Y.2.1 Y.2.2.1 (Y.2.2.2.1 _ hlink) hO Y.2.2.2.2.1.1 hP hD hS hA hn hN hbytes hcells hslots hdg (fun q cA H1 hK1 g1 g2 g3 => ?_)
  have hc := i_caq (k := 4) rfl hK1
  subst hc
  exact kk q H1 g1 g2 g3
theorem i_pre {h0 : Nat} {e0 : va_E} (Y : Ci g p s m args c meth own cc) (hO : va_AO "LitDigits$State" s) (hlo : lo g ≤ s.heap.size) (hAg : ∀ q, A q → gA g q) (hP1 : va_P g.1 vwCl [(h0, e0)] H) (hS : va_S A s.heap H locs) (hal : gA g h0) : ∀ U : State, U.heap = H → s.WarmedH U.vm → IPre g H.size h0 e0 [Value.ref h0].toArray U := fun U hU hW =>
  ⟨rfl, Y.2.2.2.2.1.go (hS.weak hAg) hU hW, by rw [hU], hal, by rw [hU]; exact Nat.le_trans hlo hS.1, va_AO.moved hW.alike hO, by rw [hU]; exact hP1⟩
theorem i_runI {y : MethodName} {bytes : ByteArray} {maxL mc ms nL a : Nat} {rm : Room} {e0 : va_E} {Qc : Array Value → State → Outcome → State → Prop} {free : Addr → Prop} (Y : Ci g p s m args c meth own cc) (hO : va_AO "LitDigits$State" s) (hml : c.maxLocals = nL) (hls : ls.size = nL) (hlo : lo g ≤ s.heap.size) (hAg : ∀ q, A q → gA g q)
    (hM : Met l y (Cond.code y bytes maxL none :: ALLW) rm (IPre g H.size a e0) Qc mc ms free) (hP1 : va_P g.1 vwCl [(a, e0)] H) (hS : va_S A s.heap H locs) (hal : gA g a) (hw : Cond.methodLink own index y ∈ ALLW ∧ Cond.instanceMethod y ∈ ALLW ∧ Cond.initialized y.cls ∈ ALLW ∧ Cond.code y bytes maxL none ∈ ALLW) (ok : kOk R rm mc ms maxL y 0)
    (hy1 : y.name = "<init>") (hst : st = .ref a :: rest) (hW : (rest.map fun v => v.category).sum ≤ 8) (hdg : decode cc pc = .ok (.invokespecial index, 3)) (hf : cells + mc ≤ R.cells ∧ slots + ms ≤ R.slots) : va_Run p l e R s m args below meth c H locs cells slots mc ms (F0 m pc ls st) rest (Qc [Value.ref a].toArray) free :=
  va_runI (As := []) ⟨Y.1, Y.2.1, hml, Y.2.2.1, Y.2.2.2.1⟩ hM ⟨callB_of 0 Y.2.2.2.1 (ALLW_cons hw.2.2.2) rfl ok.1.1 ok.1.2 (Y.2.2.2.1 _ hw.2.2.1) (Y.2.2.2.1 _ hw.1) ok.2.1 ok.2.2, hy1, Y.2.2.2.1 _ hw.2.1⟩ ⟨IPre.blind, i_pre Y hO hlo hAg hP1 hS hal⟩ rfl rfl hls hst (by show 2 * 0 + _ ≤ 8; omega) hdg hf
theorem i_runN {y : MethodName} {bytes : ByteArray} {maxL mc ms nL a : Nat} {rm : Room} {host : String} {e0 : va_E} {Qc : Array Value → State → Outcome → State → Prop} {free : Addr → Prop} (Y : Ci g p s m args c meth own cc) (hO : va_AO "LitDigits$State" s) (hml : c.maxLocals = nL) (hls : ls.size = nL) (hlo : lo g ≤ s.heap.size) (hAg : ∀ q, A q → gA g q)
    (hM : Met l y (Cond.code y bytes maxL none :: ALLW) rm (IPre g H.size a e0) Qc mc ms free) (hP1 : va_P g.1 vwCl [(a, e0)] H) (hS : va_S A s.heap H locs) (hal : gA g a) (hl : va_Nw (.methodLinkNest own index y host) s) (hw : Cond.instanceMethod y ∈ ALLW ∧ Cond.initialized y.cls ∈ ALLW ∧ Cond.code y bytes maxL none ∈ ALLW) (ok : kOk R rm mc ms maxL y 0)
    (hy1 : y.name = "<init>") (hst : st = .ref a :: rest) (hW : (rest.map fun v => v.category).sum ≤ 8) (hdg : decode cc pc = .ok (.invokespecial index, 3)) (hf : cells + mc ≤ R.cells ∧ slots + ms ≤ R.slots) : va_Run p l e R s m args below meth c H locs cells slots mc ms (F0 m pc ls st) rest (Qc [Value.ref a].toArray) free :=
  va_runIN (As := []) ⟨Y.1, Y.2.1, hml, Y.2.2.1, Y.2.2.2.1⟩ hM ⟨va_cnB 0 Y.2.2.2.1 (ALLW_cons hw.2.2) rfl ok.1.1 ok.1.2 hl (Y.2.2.2.1 _ hw.2.1) ok.2.1 ok.2.2, hy1, Y.2.2.2.1 _ hw.1⟩ ⟨IPre.blind, i_pre Y hO hlo hAg hP1 hS hal⟩ rfl rfl hls hst (by show 2 * 0 + _ ≤ 8; omega) hdg hf
theorem k_init {Bp : Heap → Prop} {C1 : va_W} {mc ms : Nat} {a : Array Value} (hS : va_S A s.heap H locs) (hr : va_Run p l e R s m args below meth c H locs cells slots mc ms (F0 m pc ls st) rest (va_Qv (fun _ : Unit => True) (fun _ t => Bp t.heap) (va_A C1 H.size) a) (va_A C1 H.size)) (hF : ∀ q, va_A C1 H.size q → A q)
    (kk : ∀ (H1 : Heap) (locs1 : List Loc), Bp H1 → (∀ q : Nat, q < H.size → ¬ va_A C1 H.size q → H1[q]? = H[q]?) → va_S A s.heap H1 locs1 → W p l e R s m args below meth c H1 locs1 (cells + mc) (slots + ms) Q (F0 m (pc + 3) ls rest)) : W p l e R s m args below meth c H locs cells slots Q (F0 m pc ls st) :=
  va_callv hr hS (fun q _ h => hF q h) hF (fun u t H1 locs1 ht hvm hp hB hz hk hS => kk H1 locs1 (by rw [← ht]; exact hB) hk hS)
theorem i_runLay {y : MethodName} {bytes : ByteArray} {maxL mc ms nL a n qs : Nat} {rm : Room} {fs : List Value} {f : Nat → Int32} {sl wh v : Int32} {Qc : Array Value → State → Outcome → State → Prop} {free : Addr → Prop} (Y : Ci g p s m args c meth own cc) (hml : c.maxLocals = nL) (hls : ls.size = nL) (hlo : lo g ≤ s.heap.size) (hAg : ∀ q, A q → gA g q)
    (hM : Met l y (Cond.code y bytes maxL none :: ALLW) rm (LPre g H.size a qs f fs sl wh v) Qc mc ms free) (hP1 : va_P g.1 vwCl [(a, .inr (6, fs)), (qs, .inl (ca g 0, 80, .inl f))] H) (hD1 : va_D A [(a, .inr (6, fs)), (qs, .inl (ca g 0, 80, .inl f))]) (hS : va_S A s.heap H locs) (hrec : ∃ cellB : Cell, H[a]? = some cellB ∧ cellB.vm.isStatics = false ∧ s.vm.findClass y.cls = some cellB.cls)
    (hw : kWV own index y bytes maxL none) (ok : kOk R rm mc ms maxL y 3) (hst : st = .int v :: .int wh :: .int sl :: .ref a :: rest) (hn : n = 3) (hW : (rest.map fun v => v.category).sum ≤ 8) (hdg : decode cc pc = .ok (.invokevirtual index, 3)) (hf : cells + mc ≤ R.cells ∧ slots + ms ≤ R.slots) : va_Run p l e R s m args below meth c H locs cells slots mc ms (F0 m pc ls st) rest (Qc [Value.ref a, .int sl, .int wh, .int v].toArray) free :=
  va_runV (As := [.int sl, .int wh, .int v]) ⟨Y.1, Y.2.1, hml, Y.2.2.1, Y.2.2.2.1⟩ hM ⟨callB_of 3 Y.2.2.2.1 (ALLW_cons hw.2.2.2.2) rfl ok.1.1 ok.1.2 (Y.2.2.2.1 _ hw.2.2.2.1) (Y.2.2.2.1 _ hw.1) ok.2.1 ok.2.2, Y.2.2.2.1 _ hw.2.1, Y.2.2.2.1 _ hw.2.2.1⟩ ⟨LPre.blind, hrec, fun U hU hW => ⟨rfl, Y.2.2.2.2.1.go (hS.weak hAg) hU hW, by rw [hU], by rw [hU]; exact hP1, hD1.weaken (fun _ _ _ _ => trivial)⟩⟩ rfl rfl hls hst (by show 2 * 0 + _ ≤ 8; omega) hdg hf
end RI
theorem mw_221 : Cond.methodLink RX0 3 ⟨"java/lang/Object", "<init>", "()V"⟩ ∈ ALLW := ALLW_in (k := 221) (by decide +kernel) (by decide +kernel)
theorem mw_96 : Cond.instanceMethod ⟨"java/lang/Object", "<init>", "()V"⟩ ∈ ALLW := ALLW_in (k := 96) (by decide +kernel) (by decide +kernel)
theorem mw_97 : Cond.code ⟨"java/lang/Object", "<init>", "()V"⟩ object_method_1_code 1 none ∈ ALLW := ALLW_in (k := 97) (by decide +kernel) (by decide +kernel)
theorem mw_160 : Cond.arrayClass .int ∈ ALLW := ALLW_in (k := 160) (by decide +kernel) (by decide +kernel)
theorem mw_219 : Cond.instanceMethod yX0_init ∈ ALLW := ALLW_in (k := 219) (by decide +kernel) (by decide +kernel)
theorem mw_220 : Cond.code yX0_init cX0_init 1 none ∈ ALLW := ALLW_in (k := 220) (by decide +kernel) (by decide +kernel)
theorem mw_237 : Cond.methodLink RX3 3 ⟨"java/lang/Object", "<init>", "()V"⟩ ∈ ALLW := ALLW_in (k := 237) (by decide +kernel) (by decide +kernel)
theorem mw_247 : Cond.arrayClass .char ∈ ALLW := ALLW_in (k := 247) (by decide +kernel) (by decide +kernel)
theorem mw_235 : Cond.instanceMethod yX3_init ∈ ALLW := ALLW_in (k := 235) (by decide +kernel) (by decide +kernel)
theorem mw_236 : Cond.code yX3_init cX3_init 1 none ∈ ALLW := ALLW_in (k := 236) (by decide +kernel) (by decide +kernel)
theorem mw_166 : Cond.methodLink RX4 3 ⟨"java/lang/Object", "<init>", "()V"⟩ ∈ ALLW := ALLW_in (k := 166) (by decide +kernel) (by decide +kernel)
theorem mw_164 : Cond.instanceMethod yX4_init ∈ ALLW := ALLW_in (k := 164) (by decide +kernel) (by decide +kernel)
theorem mw_165 : Cond.code yX4_init cX4_init 1 none ∈ ALLW := ALLW_in (k := 165) (by decide +kernel) (by decide +kernel)
theorem mw_109 : Cond.methodLink RX2 3 ⟨"java/lang/Object", "<init>", "()V"⟩ ∈ ALLW := ALLW_in (k := 109) (by decide +kernel) (by decide +kernel)
theorem mw_107 : Cond.instanceMethod yX2_init ∈ ALLW := ALLW_in (k := 107) (by decide +kernel) (by decide +kernel)
theorem mw_108 : Cond.code yX2_init cX2_init 2 none ∈ ALLW := ALLW_in (k := 108) (by decide +kernel) (by decide +kernel)
theorem mw_103 : Cond.methodLink RX1 3 ⟨"java/lang/Object", "<init>", "()V"⟩ ∈ ALLW := ALLW_in (k := 103) (by decide +kernel) (by decide +kernel)
theorem mw_104 : Cond.classLink RX1 9 "LitDigits$State" ∈ ALLW := ALLW_in (k := 104) (by decide +kernel) (by decide +kernel)
theorem mw_105 : Cond.instantiable "LitDigits$State" 10 ∈ ALLW := ALLW_in (k := 105) (by decide +kernel) (by decide +kernel)
theorem mw_106 : Cond.methodLink RX1 11 yX2_init ∈ ALLW := ALLW_in (k := 106) (by decide +kernel) (by decide +kernel)
theorem mw_192 : Cond.arrayClass .boolean ∈ ALLW := ALLW_in (k := 192) (by decide +kernel) (by decide +kernel)
theorem mw_161 : Cond.classLink RX1 32 "LitDigits$Turn" ∈ ALLW := ALLW_in (k := 161) (by decide +kernel) (by decide +kernel)
theorem mw_162 : Cond.instantiable "LitDigits$Turn" 8 ∈ ALLW := ALLW_in (k := 162) (by decide +kernel) (by decide +kernel)
theorem mw_101 : Cond.instanceMethod yX1_init ∈ ALLW := ALLW_in (k := 101) (by decide +kernel) (by decide +kernel)
theorem mw_102 : Cond.code yX1_init cX1_init 1 none ∈ ALLW := ALLW_in (k := 102) (by decide +kernel) (by decide +kernel)
theorem mw_95 : Cond.methodLink RX5 1 ⟨"java/lang/Object", "<init>", "()V"⟩ ∈ ALLW := ALLW_in (k := 95) (by decide +kernel) (by decide +kernel)
theorem mw_98 : Cond.classLink RX5 7 "LitDigits$Eye" ∈ ALLW := ALLW_in (k := 98) (by decide +kernel) (by decide +kernel)
theorem mw_99 : Cond.instantiable "LitDigits$Eye" 6 ∈ ALLW := ALLW_in (k := 99) (by decide +kernel) (by decide +kernel)
theorem mw_216 : Cond.classLink RX5 26 "LitDigits$Balance" ∈ ALLW := ALLW_in (k := 216) (by decide +kernel) (by decide +kernel)
theorem mw_217 : Cond.instantiable "LitDigits$Balance" 2 ∈ ALLW := ALLW_in (k := 217) (by decide +kernel) (by decide +kernel)
theorem mw_230 : Cond.classLink RX5 33 "LitDigits$Turn" ∈ ALLW := ALLW_in (k := 230) (by decide +kernel) (by decide +kernel)
theorem mw_232 : Cond.classLink RX5 40 "LitDigits$Text" ∈ ALLW := ALLW_in (k := 232) (by decide +kernel) (by decide +kernel)
theorem mw_233 : Cond.instantiable "LitDigits$Text" 2 ∈ ALLW := ALLW_in (k := 233) (by decide +kernel) (by decide +kernel)
theorem mw_248 : Cond.classLink RX5 47 "LitDigits$State" ∈ ALLW := ALLW_in (k := 248) (by decide +kernel) (by decide +kernel)
theorem mw_250 : Cond.methodLink RX5 53 yX2_init ∈ ALLW := ALLW_in (k := 250) (by decide +kernel) (by decide +kernel)
theorem mw_93 : Cond.instanceMethod yX5_init ∈ ALLW := ALLW_in (k := 93) (by decide +kernel) (by decide +kernel)
theorem mw_94 : Cond.code yX5_init cX5_init 2 none ∈ ALLW := ALLW_in (k := 94) (by decide +kernel) (by decide +kernel)
theorem mw_942 : Cond.methodLink RX6 1 ⟨"java/lang/Object", "<init>", "()V"⟩ ∈ ALLW := ALLW_in (k := 942) (by decide +kernel) (by decide +kernel)
theorem mw_940 : Cond.instanceMethod yX6_init ∈ ALLW := ALLW_in (k := 940) (by decide +kernel) (by decide +kernel)
theorem mw_941 : Cond.code yX6_init cX6_init 2 none ∈ ALLW := ALLW_in (k := 941) (by decide +kernel) (by decide +kernel)
theorem mw_90 : Cond.classLink RL 8 "LitDigits" ∈ ALLW := ALLW_in (k := 90) (by decide +kernel) (by decide +kernel)
theorem mw_91 : Cond.instantiable "LitDigits" 11 ∈ ALLW := ALLW_in (k := 91) (by decide +kernel) (by decide +kernel)
theorem mw_92 : Cond.methodLink RL 82 yX5_init ∈ ALLW := ALLW_in (k := 92) (by decide +kernel) (by decide +kernel)
theorem mw_937 : Cond.classLink RL 83 "LitDigitsModel" ∈ ALLW := ALLW_in (k := 937) (by decide +kernel) (by decide +kernel)
theorem mw_938 : Cond.instantiable "LitDigitsModel" 19 ∈ ALLW := ALLW_in (k := 938) (by decide +kernel) (by decide +kernel)
theorem mw_939 : Cond.methodLink RL 85 yX6_init ∈ ALLW := ALLW_in (k := 939) (by decide +kernel) (by decide +kernel)
theorem mw_1329 : Cond.arrayClass .long ∈ ALLW := ALLW_in (k := 1329) (by decide +kernel) (by decide +kernel)
theorem ko_X0_init : yX0_init.cls ≠ "java/lang/invoke/MethodHandle" ∧ yX0_init.cls ≠ "java/lang/invoke/VarHandle" ∧ (parseMethodDescriptor yX0_init.desc).map (fun d => d.parameters.length) = some 0 := by decide +kernel
theorem kwi_X0_init : Cond.instanceMethod yX0_init ∈ ALLW ∧ Cond.initialized RX0 ∈ ALLW ∧ Cond.code yX0_init cX0_init 1 none ∈ ALLW := ⟨mw_219, mw_71, mw_220⟩
theorem ko_X3_init : yX3_init.cls ≠ "java/lang/invoke/MethodHandle" ∧ yX3_init.cls ≠ "java/lang/invoke/VarHandle" ∧ (parseMethodDescriptor yX3_init.desc).map (fun d => d.parameters.length) = some 0 := by decide +kernel
theorem kwi_X3_init : Cond.instanceMethod yX3_init ∈ ALLW ∧ Cond.initialized RX3 ∈ ALLW ∧ Cond.code yX3_init cX3_init 1 none ∈ ALLW := ⟨mw_235, mw_72, mw_236⟩
theorem ko_X4_init : yX4_init.cls ≠ "java/lang/invoke/MethodHandle" ∧ yX4_init.cls ≠ "java/lang/invoke/VarHandle" ∧ (parseMethodDescriptor yX4_init.desc).map (fun d => d.parameters.length) = some 0 := by decide +kernel
theorem kwi_X4_init : Cond.instanceMethod yX4_init ∈ ALLW ∧ Cond.initialized RX4 ∈ ALLW ∧ Cond.code yX4_init cX4_init 1 none ∈ ALLW := ⟨mw_164, mw_70, mw_165⟩
theorem ko_X2_init : yX2_init.cls ≠ "java/lang/invoke/MethodHandle" ∧ yX2_init.cls ≠ "java/lang/invoke/VarHandle" ∧ (parseMethodDescriptor yX2_init.desc).map (fun d => d.parameters.length) = some 0 := by decide +kernel
theorem kwi_X2_init : Cond.instanceMethod yX2_init ∈ ALLW ∧ Cond.initialized RX2 ∈ ALLW ∧ Cond.code yX2_init cX2_init 2 none ∈ ALLW := ⟨mw_107, mw_69, mw_108⟩
theorem ko_X1_init : yX1_init.cls ≠ "java/lang/invoke/MethodHandle" ∧ yX1_init.cls ≠ "java/lang/invoke/VarHandle" ∧ (parseMethodDescriptor yX1_init.desc).map (fun d => d.parameters.length) = some 0 := by decide +kernel
theorem kwi_X1_init : Cond.instanceMethod yX1_init ∈ ALLW ∧ Cond.initialized RX1 ∈ ALLW ∧ Cond.code yX1_init cX1_init 1 none ∈ ALLW := ⟨mw_101, mw_68, mw_102⟩
theorem ko_X5_init : yX5_init.cls ≠ "java/lang/invoke/MethodHandle" ∧ yX5_init.cls ≠ "java/lang/invoke/VarHandle" ∧ (parseMethodDescriptor yX5_init.desc).map (fun d => d.parameters.length) = some 0 := by decide +kernel
theorem kwi_X5_init : Cond.instanceMethod yX5_init ∈ ALLW ∧ Cond.initialized RX5 ∈ ALLW ∧ Cond.code yX5_init cX5_init 2 none ∈ ALLW := ⟨mw_93, mw_67, mw_94⟩
theorem ko_X6_init : yX6_init.cls ≠ "java/lang/invoke/MethodHandle" ∧ yX6_init.cls ≠ "java/lang/invoke/VarHandle" ∧ (parseMethodDescriptor yX6_init.desc).map (fun d => d.parameters.length) = some 0 := by decide +kernel
theorem kwi_X6_init : Cond.instanceMethod yX6_init ∈ ALLW ∧ Cond.initialized RX6 ∈ ALLW ∧ Cond.code yX6_init cX6_init 2 none ∈ ALLW := ⟨mw_940, mw_73, mw_941⟩
