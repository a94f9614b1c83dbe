/-! THE LAW: rows -/
theorem vp01 : vp_in 0 1 := by unfold vp_in; decide
section RL
variable {p : Program} {l : Launch} {e : Env} {R : Room} {s : State} {m : MethodId} {args : Array Value} {below : List Frame} {meth : Method} {c : Code} {H : Heap} {locs : List Loc} {cells slots : Nat} {Q : State → Prop}
variable {cc : ByteArray} {pc : Nat} {ls : Array Slot} {rest st : List Value} {g : gG} {mm : gM} {own : String} {index : Nat}
theorem Cx_ofW {y : MethodName} {nL : Nat} {ret : Option FieldType} {rm : Room} {s₁ : State} {w0 : Cond} (hDW : DW g) (hF : Fx g s s.heap) (hlo : lo g ≤ s.heap.size) (B : BodyLoose p l y (headSpec (w0 :: ALLW) rm) cc nL ret e s m args below meth c s₁) : Cx g p s m args c meth y.cls cc :=
  ⟨B.exec, B.bytes, findClass_of_methodNamed B.named, fun w hw => atoms_spec (ws := w0 :: ALLW) B.pre w (List.mem_cons_of_mem _ hw), hDW, fun q hq => Nat.le_trans hlo hq, hF, B.notSynchronized⟩
theorem k_SW {y : MethodName} {bytes : ByteArray} {maxL mc ms n nL : Nat} {ret : Option FieldType} {hh : List (Nat × Nat × Nat × Nat)} {rm : Room} {As : List Value} {Qc : Array Value → State → Outcome → State → Prop} (X : Cx g p s m args c meth own cc) (h : Wd g mm s H locs) (hml : c.maxLocals = nL) (hls : ls.size = nL)
    (hM : Met l y (Cond.codeWith y bytes maxL ret hh :: ALLW) rm (CPre g mm As) Qc mc ms (gA g)) (hw : Cond.methodLink own index y ∈ ALLW ∧ Cond.static y ∈ ALLW ∧ Cond.initialized y.cls ∈ ALLW ∧ Cond.codeWith y bytes maxL ret hh ∈ ALLW) (ok : kOk R rm mc ms maxL y n)
    (hn : As.length = n) (hst : st = As.reverse ++ rest) (hW : (rest.map fun v => v.category).sum ≤ 8) (hdg : decode cc pc = .ok (.invokestatic index, 3)) (hf : cells + mc ≤ R.cells ∧ slots + ms ≤ R.slots) : va_Run p l e R s m args below meth c H locs cells slots mc ms (F0 m pc ls st) rest (Qc As.toArray) (gA g) := by
  have hG : GoodIn ALLW (va_wsS own index y (Cond.codeWith y bytes maxL ret hh :: ALLW)) := by
    intro w hw1
    have hin : w ∈ ALLW := by
      unfold va_wsS at hw1
      simp only [List.cons_append, List.nil_append, List.mem_cons] at hw1
      rcases hw1 with rfl | rfl | rfl | rfl | h5
      · exact hw.1
      · exact hw.2.1
      · exact hw.2.2.1
      · exact hw.2.2.2
      · exact h5
    exact ⟨hin, ALLW_good _ hin⟩
  exact vx_runSW ⟨X.1, X.2.1, hml, X.2.2.1, X.2.2.2.1⟩ hM (vx_cwSW n X.2.2.2.1 hG rfl ok.1.1 ok.1.2 ok.2.1 ok.2.2) ⟨CPre.blind, k_pre X h _⟩ rfl hn hls hst (by show 2 * 0 + _ ≤ 8; omega) hdg hf
theorem r_lald (X : Cx g p s m args c meth own cc) (h : Wd g mm s H locs) {i : Int32} (hi : vp_in i 1) (hdg : decode cc pc = .ok (.laload, 1))
    (kk : W p l e R s m args below meth c H locs cells slots Q (F0 m (pc + 1) ls (.long (gl mm 34 0) :: rest))) : W p l e R s m args below meth c H locs cells slots Q (F0 m pc ls (.int i :: .ref (ad g 34 0) :: rest)) := by
  obtain ⟨q0, hq⟩ := mem_allc (c := 34) (t := 0) (by decide) (by decide)
  exact va_lald X.1 X.2.1 X.2.2.2.2.2.2.1.1 h.1 q0 3 (n := 1) (f := fun _ => gl mm 34 0) (wl_at hq) rfl hi hdg kk
end RL
theorem tb_out0_27 {x : Int32} (c0 : ¬ x = 0) (c1 : ¬ x = 1) (c2 : ¬ x = 2) (c3 : ¬ x = 3) (c4 : ¬ x = 4) (c5 : ¬ x = 5) (c6 : ¬ x = 6) (c7 : ¬ x = 7) (c8 : ¬ x = 8) (c9 : ¬ x = 9) (c10 : ¬ x = 10) (c11 : ¬ x = 11) (c12 : ¬ x = 12) (c13 : ¬ x = 13) (c14 : ¬ x = 14) (c15 : ¬ x = 15) (c16 : ¬ x = 16) (c17 : ¬ x = 17) (c18 : ¬ x = 18) (c19 : ¬ x = 19) (c20 : ¬ x = 20) (c21 : ¬ x = 21) (c22 : ¬ x = 22) (c23 : ¬ x = 23) (c24 : ¬ x = 24) (c25 : ¬ x = 25) (c26 : ¬ x = 26) : x.toInt < 0 ∨ (26 : Int) < x.toInt := by
  rcases Int.lt_or_le x.toInt 0 with h | h
  · exact Or.inl h
  rcases Int.lt_or_le (26 : Int) x.toInt with h1 | h1
  · exact Or.inr h1
  rcases (show x.toInt = 0 ∨ x.toInt = 1 ∨ x.toInt = 2 ∨ x.toInt = 3 ∨ x.toInt = 4 ∨ x.toInt = 5 ∨ x.toInt = 6 ∨ x.toInt = 7 ∨ x.toInt = 8 ∨ x.toInt = 9 ∨ x.toInt = 10 ∨ x.toInt = 11 ∨ x.toInt = 12 ∨ x.toInt = 13 ∨ x.toInt = 14 ∨ x.toInt = 15 ∨ x.toInt = 16 ∨ x.toInt = 17 ∨ x.toInt = 18 ∨ x.toInt = 19 ∨ x.toInt = 20 ∨ x.toInt = 21 ∨ x.toInt = 22 ∨ x.toInt = 23 ∨ x.toInt = 24 ∨ x.toInt = 25 ∨ x.toInt = 26 by omega) with h2 | h2 | h2 | h2 | h2 | h2 | h2 | h2 | h2 | h2 | h2 | h2 | h2 | h2 | h2 | h2 | h2 | h2 | h2 | h2 | h2 | h2 | h2 | h2 | h2 | h2 | h2
  · exact absurd (Int32.toInt_inj.mp (h2.trans (show (0 : Int) = (0 : Int32).toInt by decide))) c0
  · exact absurd (Int32.toInt_inj.mp (h2.trans (show (1 : Int) = (1 : Int32).toInt by decide))) c1
  · exact absurd (Int32.toInt_inj.mp (h2.trans (show (2 : Int) = (2 : Int32).toInt by decide))) c2
  · exact absurd (Int32.toInt_inj.mp (h2.trans (show (3 : Int) = (3 : Int32).toInt by decide))) c3
  · exact absurd (Int32.toInt_inj.mp (h2.trans (show (4 : Int) = (4 : Int32).toInt by decide))) c4
  · exact absurd (Int32.toInt_inj.mp (h2.trans (show (5 : Int) = (5 : Int32).toInt by decide))) c5
  · exact absurd (Int32.toInt_inj.mp (h2.trans (show (6 : Int) = (6 : Int32).toInt by decide))) c6
  · exact absurd (Int32.toInt_inj.mp (h2.trans (show (7 : Int) = (7 : Int32).toInt by decide))) c7
  · exact absurd (Int32.toInt_inj.mp (h2.trans (show (8 : Int) = (8 : Int32).toInt by decide))) c8
  · exact absurd (Int32.toInt_inj.mp (h2.trans (show (9 : Int) = (9 : Int32).toInt by decide))) c9
  · exact absurd (Int32.toInt_inj.mp (h2.trans (show (10 : Int) = (10 : Int32).toInt by decide))) c10
  · exact absurd (Int32.toInt_inj.mp (h2.trans (show (11 : Int) = (11 : Int32).toInt by decide))) c11
  · exact absurd (Int32.toInt_inj.mp (h2.trans (show (12 : Int) = (12 : Int32).toInt by decide))) c12
  · exact absurd (Int32.toInt_inj.mp (h2.trans (show (13 : Int) = (13 : Int32).toInt by decide))) c13
  · exact absurd (Int32.toInt_inj.mp (h2.trans (show (14 : Int) = (14 : Int32).toInt by decide))) c14
  · exact absurd (Int32.toInt_inj.mp (h2.trans (show (15 : Int) = (15 : Int32).toInt by decide))) c15
  · exact absurd (Int32.toInt_inj.mp (h2.trans (show (16 : Int) = (16 : Int32).toInt by decide))) c16
  · exact absurd (Int32.toInt_inj.mp (h2.trans (show (17 : Int) = (17 : Int32).toInt by decide))) c17
  · exact absurd (Int32.toInt_inj.mp (h2.trans (show (18 : Int) = (18 : Int32).toInt by decide))) c18
  · exact absurd (Int32.toInt_inj.mp (h2.trans (show (19 : Int) = (19 : Int32).toInt by decide))) c19
  · exact absurd (Int32.toInt_inj.mp (h2.trans (show (20 : Int) = (20 : Int32).toInt by decide))) c20
  · exact absurd (Int32.toInt_inj.mp (h2.trans (show (21 : Int) = (21 : Int32).toInt by decide))) c21
  · exact absurd (Int32.toInt_inj.mp (h2.trans (show (22 : Int) = (22 : Int32).toInt by decide))) c22
  · exact absurd (Int32.toInt_inj.mp (h2.trans (show (23 : Int) = (23 : Int32).toInt by decide))) c23
  · exact absurd (Int32.toInt_inj.mp (h2.trans (show (24 : Int) = (24 : Int32).toInt by decide))) c24
  · exact absurd (Int32.toInt_inj.mp (h2.trans (show (25 : Int) = (25 : Int32).toInt by decide))) c25
  · exact absurd (Int32.toInt_inj.mp (h2.trans (show (26 : Int) = (26 : Int32).toInt by decide))) c26
theorem mw_634 : Cond.methodLink RL 7 yX5_show ∈ ALLW := ALLW_in (k := 634) (by decide +kernel) (by decide +kernel)
theorem mw_632 : Cond.classLink RL 13 "java/lang/IndexOutOfBoundsException" ∈ ALLW := ALLW_in (k := 632) (by decide +kernel) (by decide +kernel)
theorem mw_633 : Cond.classLink RL 15 "java/lang/IllegalArgumentException" ∈ ALLW := ALLW_in (k := 633) (by decide +kernel) (by decide +kernel)
theorem mw_731 : Cond.methodLink RL 17 yX5_dot ∈ ALLW := ALLW_in (k := 731) (by decide +kernel) (by decide +kernel)
theorem mw_738 : Cond.methodLink RL 21 yX5_burn ∈ ALLW := ALLW_in (k := 738) (by decide +kernel) (by decide +kernel)
theorem mw_749 : Cond.methodLink RL 24 yX5_cut ∈ ALLW := ALLW_in (k := 749) (by decide +kernel) (by decide +kernel)
theorem mw_756 : Cond.methodLink RL 27 yX5_time ∈ ALLW := ALLW_in (k := 756) (by decide +kernel) (by decide +kernel)
theorem mw_768 : Cond.methodLink RL 30 yX5_balance ∈ ALLW := ALLW_in (k := 768) (by decide +kernel) (by decide +kernel)
theorem mw_767 : Cond.classLink RL 33 "java/lang/IllegalStateException" ∈ ALLW := ALLW_in (k := 767) (by decide +kernel) (by decide +kernel)
theorem mw_795 : Cond.methodLink RL 35 yX5_set ∈ ALLW := ALLW_in (k := 795) (by decide +kernel) (by decide +kernel)
theorem mw_811 : Cond.methodLink RL 38 yX5_pass ∈ ALLW := ALLW_in (k := 811) (by decide +kernel) (by decide +kernel)
theorem mw_832 : Cond.methodLink RL 41 yX5_append ∈ ALLW := ALLW_in (k := 832) (by decide +kernel) (by decide +kernel)
theorem mw_841 : Cond.methodLink RL 44 yX5_load ∈ ALLW := ALLW_in (k := 841) (by decide +kernel) (by decide +kernel)
theorem mw_853 : Cond.methodLink RL 48 yX5_keep ∈ ALLW := ALLW_in (k := 853) (by decide +kernel) (by decide +kernel)
theorem mw_864 : Cond.methodLink RL 51 yX5_goBack ∈ ALLW := ALLW_in (k := 864) (by decide +kernel) (by decide +kernel)
theorem mw_872 : Cond.methodLink RL 54 yX5_undo ∈ ALLW := ALLW_in (k := 872) (by decide +kernel) (by decide +kernel)
theorem mw_880 : Cond.methodLink RL 57 yX5_slotOf ∈ ALLW := ALLW_in (k := 880) (by decide +kernel) (by decide +kernel)
theorem mw_891 : Cond.methodLink RL 60 yX5_segmentOf ∈ ALLW := ALLW_in (k := 891) (by decide +kernel) (by decide +kernel)
theorem mw_898 : Cond.methodLink RL 64 yX5_count ∈ ALLW := ALLW_in (k := 898) (by decide +kernel) (by decide +kernel)
theorem mw_905 : Cond.methodLink RL 67 yX5_setting ∈ ALLW := ALLW_in (k := 905) (by decide +kernel) (by decide +kernel)
theorem mw_912 : Cond.methodLink RL 70 yX5_couldBe ∈ ALLW := ALLW_in (k := 912) (by decide +kernel) (by decide +kernel)
theorem mw_919 : Cond.methodLink RL 73 yX5_ifTimed ∈ ALLW := ALLW_in (k := 919) (by decide +kernel) (by decide +kernel)
theorem mw_926 : Cond.methodLink RL 76 yX5_ifBalanced ∈ ALLW := ALLW_in (k := 926) (by decide +kernel) (by decide +kernel)
theorem mw_933 : Cond.methodLink RL 79 yX5_safest ∈ ALLW := ALLW_in (k := 933) (by decide +kernel) (by decide +kernel)
theorem mw_629 : Cond.methodLink RL 86 yL_show ∈ ALLW := ALLW_in (k := 629) (by decide +kernel) (by decide +kernel)
theorem mw_1009 : Cond.methodLink RL 91 yX6_show ∈ ALLW := ALLW_in (k := 1009) (by decide +kernel) (by decide +kernel)
theorem mw_1005 : Cond.methodLink RL 92 yX6_thrown ∈ ALLW := ALLW_in (k := 1005) (by decide +kernel) (by decide +kernel)
theorem mw_728 : Cond.methodLink RL 95 yL_dot ∈ ALLW := ALLW_in (k := 728) (by decide +kernel) (by decide +kernel)
theorem mw_1031 : Cond.methodLink RL 98 yX6_dot ∈ ALLW := ALLW_in (k := 1031) (by decide +kernel) (by decide +kernel)
theorem mw_735 : Cond.methodLink RL 99 yL_burn ∈ ALLW := ALLW_in (k := 735) (by decide +kernel) (by decide +kernel)
theorem mw_1035 : Cond.methodLink RL 101 yX6_burn ∈ ALLW := ALLW_in (k := 1035) (by decide +kernel) (by decide +kernel)
theorem mw_746 : Cond.methodLink RL 102 yL_cut ∈ ALLW := ALLW_in (k := 746) (by decide +kernel) (by decide +kernel)
theorem mw_1042 : Cond.methodLink RL 104 yX6_cut ∈ ALLW := ALLW_in (k := 1042) (by decide +kernel) (by decide +kernel)
theorem mw_753 : Cond.methodLink RL 105 yL_time ∈ ALLW := ALLW_in (k := 753) (by decide +kernel) (by decide +kernel)
theorem mw_1046 : Cond.methodLink RL 107 yX6_time ∈ ALLW := ALLW_in (k := 1046) (by decide +kernel) (by decide +kernel)
theorem mw_764 : Cond.methodLink RL 108 yL_balance ∈ ALLW := ALLW_in (k := 764) (by decide +kernel) (by decide +kernel)
theorem mw_1050 : Cond.methodLink RL 110 yX6_balance ∈ ALLW := ALLW_in (k := 1050) (by decide +kernel) (by decide +kernel)
theorem mw_792 : Cond.methodLink RL 111 yL_set ∈ ALLW := ALLW_in (k := 792) (by decide +kernel) (by decide +kernel)
theorem mw_1080 : Cond.methodLink RL 113 yX6_set ∈ ALLW := ALLW_in (k := 1080) (by decide +kernel) (by decide +kernel)
theorem mw_808 : Cond.methodLink RL 114 yL_pass ∈ ALLW := ALLW_in (k := 808) (by decide +kernel) (by decide +kernel)
theorem mw_1084 : Cond.methodLink RL 116 yX6_pass ∈ ALLW := ALLW_in (k := 1084) (by decide +kernel) (by decide +kernel)
theorem mw_829 : Cond.methodLink RL 117 yL_append ∈ ALLW := ALLW_in (k := 829) (by decide +kernel) (by decide +kernel)
theorem mw_1125 : Cond.methodLink RL 119 yX6_append ∈ ALLW := ALLW_in (k := 1125) (by decide +kernel) (by decide +kernel)
theorem mw_285 : Cond.methodLink RL 120 yX5_clearBuffer ∈ ALLW := ALLW_in (k := 285) (by decide +kernel) (by decide +kernel)
theorem mw_1129 : Cond.methodLink RL 123 yX6_clearBuffer ∈ ALLW := ALLW_in (k := 1129) (by decide +kernel) (by decide +kernel)
theorem mw_289 : Cond.methodLink RL 124 yX5_firstError ∈ ALLW := ALLW_in (k := 289) (by decide +kernel) (by decide +kernel)
theorem mw_1133 : Cond.methodLink RL 127 yX6_firstError ∈ ALLW := ALLW_in (k := 1133) (by decide +kernel) (by decide +kernel)
theorem mw_838 : Cond.methodLink RL 128 yL_load ∈ ALLW := ALLW_in (k := 838) (by decide +kernel) (by decide +kernel)
theorem mw_1152 : Cond.methodLink RL 131 yX6_load ∈ ALLW := ALLW_in (k := 1152) (by decide +kernel) (by decide +kernel)
theorem mw_385 : Cond.methodLink RL 132 yX5_write ∈ ALLW := ALLW_in (k := 385) (by decide +kernel) (by decide +kernel)
theorem mw_1156 : Cond.methodLink RL 135 yX6_write ∈ ALLW := ALLW_in (k := 1156) (by decide +kernel) (by decide +kernel)
theorem mw_850 : Cond.methodLink RL 136 yL_keep ∈ ALLW := ALLW_in (k := 850) (by decide +kernel) (by decide +kernel)
theorem mw_1179 : Cond.methodLink RL 138 yX6_keep ∈ ALLW := ALLW_in (k := 1179) (by decide +kernel) (by decide +kernel)
theorem mw_861 : Cond.methodLink RL 139 yL_goBack ∈ ALLW := ALLW_in (k := 861) (by decide +kernel) (by decide +kernel)
theorem mw_1183 : Cond.methodLink RL 141 yX6_goBack ∈ ALLW := ALLW_in (k := 1183) (by decide +kernel) (by decide +kernel)
theorem mw_869 : Cond.methodLink RL 142 yL_undo ∈ ALLW := ALLW_in (k := 869) (by decide +kernel) (by decide +kernel)
theorem mw_1187 : Cond.methodLink RL 144 yX6_undo ∈ ALLW := ALLW_in (k := 1187) (by decide +kernel) (by decide +kernel)
theorem mw_877 : Cond.methodLink RL 145 yL_slotOf ∈ ALLW := ALLW_in (k := 877) (by decide +kernel) (by decide +kernel)
theorem mw_1191 : Cond.methodLink RL 147 yX6_slotOf ∈ ALLW := ALLW_in (k := 1191) (by decide +kernel) (by decide +kernel)
theorem mw_888 : Cond.methodLink RL 148 yL_segmentOf ∈ ALLW := ALLW_in (k := 888) (by decide +kernel) (by decide +kernel)
theorem mw_1207 : Cond.methodLink RL 151 yX6_segmentOf ∈ ALLW := ALLW_in (k := 1207) (by decide +kernel) (by decide +kernel)
theorem mw_895 : Cond.methodLink RL 152 yL_count ∈ ALLW := ALLW_in (k := 895) (by decide +kernel) (by decide +kernel)
theorem mw_1215 : Cond.methodLink RL 154 yX6_count ∈ ALLW := ALLW_in (k := 1215) (by decide +kernel) (by decide +kernel)
theorem mw_902 : Cond.methodLink RL 155 yL_setting ∈ ALLW := ALLW_in (k := 902) (by decide +kernel) (by decide +kernel)
theorem mw_1243 : Cond.methodLink RL 157 yX6_setting ∈ ALLW := ALLW_in (k := 1243) (by decide +kernel) (by decide +kernel)
theorem mw_909 : Cond.methodLink RL 158 yL_couldBe ∈ ALLW := ALLW_in (k := 909) (by decide +kernel) (by decide +kernel)
theorem mw_1247 : Cond.methodLink RL 160 yX6_couldBe ∈ ALLW := ALLW_in (k := 1247) (by decide +kernel) (by decide +kernel)
theorem mw_916 : Cond.methodLink RL 161 yL_ifTimed ∈ ALLW := ALLW_in (k := 916) (by decide +kernel) (by decide +kernel)
theorem mw_1255 : Cond.methodLink RL 163 yX6_ifTimed ∈ ALLW := ALLW_in (k := 1255) (by decide +kernel) (by decide +kernel)
theorem mw_923 : Cond.methodLink RL 164 yL_ifBalanced ∈ ALLW := ALLW_in (k := 923) (by decide +kernel) (by decide +kernel)
theorem mw_1263 : Cond.methodLink RL 166 yX6_ifBalanced ∈ ALLW := ALLW_in (k := 1263) (by decide +kernel) (by decide +kernel)
theorem mw_930 : Cond.methodLink RL 167 yL_safest ∈ ALLW := ALLW_in (k := 930) (by decide +kernel) (by decide +kernel)
theorem mw_1271 : Cond.methodLink RL 169 yX6_safest ∈ ALLW := ALLW_in (k := 1271) (by decide +kernel) (by decide +kernel)
theorem mw_492 : Cond.methodLink RL 170 yX5_litShare ∈ ALLW := ALLW_in (k := 492) (by decide +kernel) (by decide +kernel)
theorem mw_1279 : Cond.methodLink RL 174 yX6_litShare ∈ ALLW := ALLW_in (k := 1279) (by decide +kernel) (by decide +kernel)
theorem mw_501 : Cond.methodLink RL 175 yX5_meanBrightness ∈ ALLW := ALLW_in (k := 501) (by decide +kernel) (by decide +kernel)
theorem mw_1287 : Cond.methodLink RL 179 yX6_meanBrightness ∈ ALLW := ALLW_in (k := 1287) (by decide +kernel) (by decide +kernel)
theorem mw_513 : Cond.methodLink RL 180 yX5_digest ∈ ALLW := ALLW_in (k := 513) (by decide +kernel) (by decide +kernel)
theorem mw_1295 : Cond.methodLink RL 184 yX6_digest ∈ ALLW := ALLW_in (k := 1295) (by decide +kernel) (by decide +kernel)
theorem mw_830 : Cond.static yL_append ∈ ALLW := ALLW_in (k := 830) (by decide +kernel) (by decide +kernel)
theorem mw_66 : Cond.initialized RL ∈ ALLW := ALLW_in (k := 66) (by decide +kernel) (by decide +kernel)
theorem mw_831 : Cond.codeWith yL_append cL_append 4 (some .int) [(0, 9, 12, 15), (0, 9, 15, 33)] ∈ ALLW := ALLW_in (k := 831) (by decide +kernel) (by decide +kernel)
theorem mw_765 : Cond.static yL_balance ∈ ALLW := ALLW_in (k := 765) (by decide +kernel) (by decide +kernel)
theorem mw_766 : Cond.codeWith yL_balance cL_balance 4 (some .int) [(0, 9, 12, 15), (0, 9, 15, 33)] ∈ ALLW := ALLW_in (k := 766) (by decide +kernel) (by decide +kernel)
theorem mw_736 : Cond.static yL_burn ∈ ALLW := ALLW_in (k := 736) (by decide +kernel) (by decide +kernel)
theorem mw_737 : Cond.codeWith yL_burn cL_burn 5 (some .int) [(0, 10, 13, 13)] ∈ ALLW := ALLW_in (k := 737) (by decide +kernel) (by decide +kernel)
theorem mw_910 : Cond.static yL_couldBe ∈ ALLW := ALLW_in (k := 910) (by decide +kernel) (by decide +kernel)
theorem mw_911 : Cond.codeWith yL_couldBe cL_couldBe 5 (some .int) [(0, 10, 13, 13), (0, 10, 17, 15)] ∈ ALLW := ALLW_in (k := 911) (by decide +kernel) (by decide +kernel)
theorem mw_896 : Cond.static yL_count ∈ ALLW := ALLW_in (k := 896) (by decide +kernel) (by decide +kernel)
theorem mw_897 : Cond.codeWith yL_count cL_count 4 (some .int) [(0, 9, 12, 15)] ∈ ALLW := ALLW_in (k := 897) (by decide +kernel) (by decide +kernel)
theorem mw_747 : Cond.static yL_cut ∈ ALLW := ALLW_in (k := 747) (by decide +kernel) (by decide +kernel)
theorem mw_748 : Cond.codeWith yL_cut cL_cut 4 (some .int) [(0, 9, 12, 13)] ∈ ALLW := ALLW_in (k := 748) (by decide +kernel) (by decide +kernel)
theorem mw_729 : Cond.static yL_dot ∈ ALLW := ALLW_in (k := 729) (by decide +kernel) (by decide +kernel)
theorem mw_730 : Cond.codeWith yL_dot cL_dot 4 (some .int) [(0, 9, 12, 13)] ∈ ALLW := ALLW_in (k := 730) (by decide +kernel) (by decide +kernel)
theorem mw_862 : Cond.static yL_goBack ∈ ALLW := ALLW_in (k := 862) (by decide +kernel) (by decide +kernel)
theorem mw_863 : Cond.codeWith yL_goBack cL_goBack 4 (some .int) [(0, 9, 12, 15), (0, 9, 15, 33)] ∈ ALLW := ALLW_in (k := 863) (by decide +kernel) (by decide +kernel)
theorem mw_924 : Cond.static yL_ifBalanced ∈ ALLW := ALLW_in (k := 924) (by decide +kernel) (by decide +kernel)
theorem mw_925 : Cond.codeWith yL_ifBalanced cL_ifBalanced 5 (some .int) [(0, 10, 13, 13), (0, 10, 17, 15)] ∈ ALLW := ALLW_in (k := 925) (by decide +kernel) (by decide +kernel)
theorem mw_917 : Cond.static yL_ifTimed ∈ ALLW := ALLW_in (k := 917) (by decide +kernel) (by decide +kernel)
theorem mw_918 : Cond.codeWith yL_ifTimed cL_ifTimed 5 (some .int) [(0, 10, 13, 13), (0, 10, 17, 15)] ∈ ALLW := ALLW_in (k := 918) (by decide +kernel) (by decide +kernel)
theorem mw_851 : Cond.static yL_keep ∈ ALLW := ALLW_in (k := 851) (by decide +kernel) (by decide +kernel)
theorem mw_852 : Cond.codeWith yL_keep cL_keep 4 (some .int) [(0, 9, 12, 15)] ∈ ALLW := ALLW_in (k := 852) (by decide +kernel) (by decide +kernel)
theorem mw_839 : Cond.static yL_load ∈ ALLW := ALLW_in (k := 839) (by decide +kernel) (by decide +kernel)
theorem mw_840 : Cond.codeWith yL_load cL_load 3 (some .int) [(0, 8, 11, 15)] ∈ ALLW := ALLW_in (k := 840) (by decide +kernel) (by decide +kernel)
theorem mw_809 : Cond.static yL_pass ∈ ALLW := ALLW_in (k := 809) (by decide +kernel) (by decide +kernel)
theorem mw_810 : Cond.codeWith yL_pass cL_pass 4 (some .int) [(0, 9, 12, 15), (0, 9, 15, 33)] ∈ ALLW := ALLW_in (k := 810) (by decide +kernel) (by decide +kernel)
theorem mw_931 : Cond.static yL_safest ∈ ALLW := ALLW_in (k := 931) (by decide +kernel) (by decide +kernel)
theorem mw_932 : Cond.codeWith yL_safest cL_safest 4 (some .int) [(0, 9, 12, 13)] ∈ ALLW := ALLW_in (k := 932) (by decide +kernel) (by decide +kernel)
theorem mw_889 : Cond.static yL_segmentOf ∈ ALLW := ALLW_in (k := 889) (by decide +kernel) (by decide +kernel)
theorem mw_890 : Cond.codeWith yL_segmentOf cL_segmentOf 6 (some .int) [(0, 12, 15, 13), (0, 12, 19, 15)] ∈ ALLW := ALLW_in (k := 890) (by decide +kernel) (by decide +kernel)
theorem mw_793 : Cond.static yL_set ∈ ALLW := ALLW_in (k := 793) (by decide +kernel) (by decide +kernel)
theorem mw_794 : Cond.codeWith yL_set cL_set 5 (some .int) [(0, 10, 13, 13), (0, 10, 17, 15)] ∈ ALLW := ALLW_in (k := 794) (by decide +kernel) (by decide +kernel)
theorem mw_903 : Cond.static yL_setting ∈ ALLW := ALLW_in (k := 903) (by decide +kernel) (by decide +kernel)
theorem mw_904 : Cond.codeWith yL_setting cL_setting 4 (some .int) [(0, 9, 12, 13)] ∈ ALLW := ALLW_in (k := 904) (by decide +kernel) (by decide +kernel)
theorem mw_630 : Cond.static yL_show ∈ ALLW := ALLW_in (k := 630) (by decide +kernel) (by decide +kernel)
theorem mw_631 : Cond.codeWith yL_show cL_show 5 (some .int) [(0, 10, 13, 13), (0, 10, 17, 15)] ∈ ALLW := ALLW_in (k := 631) (by decide +kernel) (by decide +kernel)
theorem mw_878 : Cond.static yL_slotOf ∈ ALLW := ALLW_in (k := 878) (by decide +kernel) (by decide +kernel)
theorem mw_879 : Cond.codeWith yL_slotOf cL_slotOf 5 (some .int) [(0, 10, 13, 13), (0, 10, 17, 15)] ∈ ALLW := ALLW_in (k := 879) (by decide +kernel) (by decide +kernel)
theorem mw_754 : Cond.static yL_time ∈ ALLW := ALLW_in (k := 754) (by decide +kernel) (by decide +kernel)
theorem mw_755 : Cond.codeWith yL_time cL_time 5 (some .int) [(0, 10, 13, 13), (0, 10, 17, 15)] ∈ ALLW := ALLW_in (k := 755) (by decide +kernel) (by decide +kernel)
theorem mw_870 : Cond.static yL_undo ∈ ALLW := ALLW_in (k := 870) (by decide +kernel) (by decide +kernel)
theorem mw_871 : Cond.codeWith yL_undo cL_undo 3 (some .int) [(0, 8, 11, 33)] ∈ ALLW := ALLW_in (k := 871) (by decide +kernel) (by decide +kernel)
theorem mw_833 : Cond.instanceMethod yX5_append ∈ ALLW := ALLW_in (k := 833) (by decide +kernel) (by decide +kernel)
theorem mw_834 : Cond.selects RX5 yX5_append yX5_append ∈ ALLW := ALLW_in (k := 834) (by decide +kernel) (by decide +kernel)
theorem mw_835 : Cond.code yX5_append cX5_append 2 (some .int) ∈ ALLW := ALLW_in (k := 835) (by decide +kernel) (by decide +kernel)
theorem mw_769 : Cond.instanceMethod yX5_balance ∈ ALLW := ALLW_in (k := 769) (by decide +kernel) (by decide +kernel)
theorem mw_770 : Cond.selects RX5 yX5_balance yX5_balance ∈ ALLW := ALLW_in (k := 770) (by decide +kernel) (by decide +kernel)
theorem mw_771 : Cond.code yX5_balance cX5_balance 4 (some .int) ∈ ALLW := ALLW_in (k := 771) (by decide +kernel) (by decide +kernel)
theorem mw_739 : Cond.instanceMethod yX5_burn ∈ ALLW := ALLW_in (k := 739) (by decide +kernel) (by decide +kernel)
theorem mw_740 : Cond.selects RX5 yX5_burn yX5_burn ∈ ALLW := ALLW_in (k := 740) (by decide +kernel) (by decide +kernel)
theorem mw_741 : Cond.code yX5_burn cX5_burn 3 (some .int) ∈ ALLW := ALLW_in (k := 741) (by decide +kernel) (by decide +kernel)
theorem mw_286 : Cond.instanceMethod yX5_clearBuffer ∈ ALLW := ALLW_in (k := 286) (by decide +kernel) (by decide +kernel)
theorem mw_287 : Cond.selects RX5 yX5_clearBuffer yX5_clearBuffer ∈ ALLW := ALLW_in (k := 287) (by decide +kernel) (by decide +kernel)
theorem mw_288 : Cond.code yX5_clearBuffer cX5_clearBuffer 2 (some .int) ∈ ALLW := ALLW_in (k := 288) (by decide +kernel) (by decide +kernel)
theorem mw_913 : Cond.instanceMethod yX5_couldBe ∈ ALLW := ALLW_in (k := 913) (by decide +kernel) (by decide +kernel)
theorem mw_914 : Cond.selects RX5 yX5_couldBe yX5_couldBe ∈ ALLW := ALLW_in (k := 914) (by decide +kernel) (by decide +kernel)
theorem mw_915 : Cond.code yX5_couldBe cX5_couldBe 3 (some .int) ∈ ALLW := ALLW_in (k := 915) (by decide +kernel) (by decide +kernel)
theorem mw_899 : Cond.instanceMethod yX5_count ∈ ALLW := ALLW_in (k := 899) (by decide +kernel) (by decide +kernel)
theorem mw_900 : Cond.selects RX5 yX5_count yX5_count ∈ ALLW := ALLW_in (k := 900) (by decide +kernel) (by decide +kernel)
theorem mw_901 : Cond.code yX5_count cX5_count 2 (some .int) ∈ ALLW := ALLW_in (k := 901) (by decide +kernel) (by decide +kernel)
theorem mw_750 : Cond.instanceMethod yX5_cut ∈ ALLW := ALLW_in (k := 750) (by decide +kernel) (by decide +kernel)
theorem mw_751 : Cond.selects RX5 yX5_cut yX5_cut ∈ ALLW := ALLW_in (k := 751) (by decide +kernel) (by decide +kernel)
theorem mw_752 : Cond.code yX5_cut cX5_cut 2 (some .int) ∈ ALLW := ALLW_in (k := 752) (by decide +kernel) (by decide +kernel)
theorem mw_514 : Cond.instanceMethod yX5_digest ∈ ALLW := ALLW_in (k := 514) (by decide +kernel) (by decide +kernel)
theorem mw_515 : Cond.selects RX5 yX5_digest yX5_digest ∈ ALLW := ALLW_in (k := 515) (by decide +kernel) (by decide +kernel)
theorem mw_516 : Cond.code yX5_digest cX5_digest 4 (some .long) ∈ ALLW := ALLW_in (k := 516) (by decide +kernel) (by decide +kernel)
theorem mw_732 : Cond.instanceMethod yX5_dot ∈ ALLW := ALLW_in (k := 732) (by decide +kernel) (by decide +kernel)
theorem mw_733 : Cond.selects RX5 yX5_dot yX5_dot ∈ ALLW := ALLW_in (k := 733) (by decide +kernel) (by decide +kernel)
theorem mw_734 : Cond.code yX5_dot cX5_dot 2 (some .int) ∈ ALLW := ALLW_in (k := 734) (by decide +kernel) (by decide +kernel)
theorem mw_290 : Cond.instanceMethod yX5_firstError ∈ ALLW := ALLW_in (k := 290) (by decide +kernel) (by decide +kernel)
theorem mw_291 : Cond.selects RX5 yX5_firstError yX5_firstError ∈ ALLW := ALLW_in (k := 291) (by decide +kernel) (by decide +kernel)
theorem mw_292 : Cond.code yX5_firstError cX5_firstError 1 (some .int) ∈ ALLW := ALLW_in (k := 292) (by decide +kernel) (by decide +kernel)
theorem mw_865 : Cond.instanceMethod yX5_goBack ∈ ALLW := ALLW_in (k := 865) (by decide +kernel) (by decide +kernel)
theorem mw_866 : Cond.selects RX5 yX5_goBack yX5_goBack ∈ ALLW := ALLW_in (k := 866) (by decide +kernel) (by decide +kernel)
theorem mw_867 : Cond.code yX5_goBack cX5_goBack 2 (some .int) ∈ ALLW := ALLW_in (k := 867) (by decide +kernel) (by decide +kernel)
theorem mw_927 : Cond.instanceMethod yX5_ifBalanced ∈ ALLW := ALLW_in (k := 927) (by decide +kernel) (by decide +kernel)
theorem mw_928 : Cond.selects RX5 yX5_ifBalanced yX5_ifBalanced ∈ ALLW := ALLW_in (k := 928) (by decide +kernel) (by decide +kernel)
theorem mw_929 : Cond.code yX5_ifBalanced cX5_ifBalanced 3 (some .int) ∈ ALLW := ALLW_in (k := 929) (by decide +kernel) (by decide +kernel)
theorem mw_920 : Cond.instanceMethod yX5_ifTimed ∈ ALLW := ALLW_in (k := 920) (by decide +kernel) (by decide +kernel)
theorem mw_921 : Cond.selects RX5 yX5_ifTimed yX5_ifTimed ∈ ALLW := ALLW_in (k := 921) (by decide +kernel) (by decide +kernel)
theorem mw_922 : Cond.code yX5_ifTimed cX5_ifTimed 3 (some .int) ∈ ALLW := ALLW_in (k := 922) (by decide +kernel) (by decide +kernel)
theorem mw_854 : Cond.instanceMethod yX5_keep ∈ ALLW := ALLW_in (k := 854) (by decide +kernel) (by decide +kernel)
theorem mw_855 : Cond.selects RX5 yX5_keep yX5_keep ∈ ALLW := ALLW_in (k := 855) (by decide +kernel) (by decide +kernel)
theorem mw_856 : Cond.code yX5_keep cX5_keep 2 (some .int) ∈ ALLW := ALLW_in (k := 856) (by decide +kernel) (by decide +kernel)
theorem mw_842 : Cond.instanceMethod yX5_load ∈ ALLW := ALLW_in (k := 842) (by decide +kernel) (by decide +kernel)
theorem mw_843 : Cond.selects RX5 yX5_load yX5_load ∈ ALLW := ALLW_in (k := 843) (by decide +kernel) (by decide +kernel)
theorem mw_844 : Cond.code yX5_load cX5_load 2 (some .int) ∈ ALLW := ALLW_in (k := 844) (by decide +kernel) (by decide +kernel)
theorem mw_812 : Cond.instanceMethod yX5_pass ∈ ALLW := ALLW_in (k := 812) (by decide +kernel) (by decide +kernel)
theorem mw_813 : Cond.selects RX5 yX5_pass yX5_pass ∈ ALLW := ALLW_in (k := 813) (by decide +kernel) (by decide +kernel)
theorem mw_814 : Cond.code yX5_pass cX5_pass 4 (some .int) ∈ ALLW := ALLW_in (k := 814) (by decide +kernel) (by decide +kernel)
theorem mw_934 : Cond.instanceMethod yX5_safest ∈ ALLW := ALLW_in (k := 934) (by decide +kernel) (by decide +kernel)
theorem mw_935 : Cond.selects RX5 yX5_safest yX5_safest ∈ ALLW := ALLW_in (k := 935) (by decide +kernel) (by decide +kernel)
theorem mw_936 : Cond.code yX5_safest cX5_safest 2 (some .int) ∈ ALLW := ALLW_in (k := 936) (by decide +kernel) (by decide +kernel)
theorem mw_892 : Cond.instanceMethod yX5_segmentOf ∈ ALLW := ALLW_in (k := 892) (by decide +kernel) (by decide +kernel)
theorem mw_893 : Cond.selects RX5 yX5_segmentOf yX5_segmentOf ∈ ALLW := ALLW_in (k := 893) (by decide +kernel) (by decide +kernel)
theorem mw_894 : Cond.code yX5_segmentOf cX5_segmentOf 4 (some .int) ∈ ALLW := ALLW_in (k := 894) (by decide +kernel) (by decide +kernel)
theorem mw_796 : Cond.instanceMethod yX5_set ∈ ALLW := ALLW_in (k := 796) (by decide +kernel) (by decide +kernel)
theorem mw_797 : Cond.selects RX5 yX5_set yX5_set ∈ ALLW := ALLW_in (k := 797) (by decide +kernel) (by decide +kernel)
theorem mw_798 : Cond.code yX5_set cX5_set 4 (some .int) ∈ ALLW := ALLW_in (k := 798) (by decide +kernel) (by decide +kernel)
theorem mw_906 : Cond.instanceMethod yX5_setting ∈ ALLW := ALLW_in (k := 906) (by decide +kernel) (by decide +kernel)
theorem mw_907 : Cond.selects RX5 yX5_setting yX5_setting ∈ ALLW := ALLW_in (k := 907) (by decide +kernel) (by decide +kernel)
theorem mw_908 : Cond.code yX5_setting cX5_setting 2 (some .int) ∈ ALLW := ALLW_in (k := 908) (by decide +kernel) (by decide +kernel)
theorem mw_635 : Cond.instanceMethod yX5_show ∈ ALLW := ALLW_in (k := 635) (by decide +kernel) (by decide +kernel)
theorem mw_636 : Cond.selects RX5 yX5_show yX5_show ∈ ALLW := ALLW_in (k := 636) (by decide +kernel) (by decide +kernel)
theorem mw_637 : Cond.code yX5_show cX5_show 4 (some .int) ∈ ALLW := ALLW_in (k := 637) (by decide +kernel) (by decide +kernel)
theorem mw_881 : Cond.instanceMethod yX5_slotOf ∈ ALLW := ALLW_in (k := 881) (by decide +kernel) (by decide +kernel)
theorem mw_882 : Cond.selects RX5 yX5_slotOf yX5_slotOf ∈ ALLW := ALLW_in (k := 882) (by decide +kernel) (by decide +kernel)
theorem mw_883 : Cond.code yX5_slotOf cX5_slotOf 3 (some .int) ∈ ALLW := ALLW_in (k := 883) (by decide +kernel) (by decide +kernel)
theorem mw_757 : Cond.instanceMethod yX5_time ∈ ALLW := ALLW_in (k := 757) (by decide +kernel) (by decide +kernel)
theorem mw_758 : Cond.selects RX5 yX5_time yX5_time ∈ ALLW := ALLW_in (k := 758) (by decide +kernel) (by decide +kernel)
theorem mw_759 : Cond.code yX5_time cX5_time 4 (some .int) ∈ ALLW := ALLW_in (k := 759) (by decide +kernel) (by decide +kernel)
theorem mw_873 : Cond.instanceMethod yX5_undo ∈ ALLW := ALLW_in (k := 873) (by decide +kernel) (by decide +kernel)
theorem mw_874 : Cond.selects RX5 yX5_undo yX5_undo ∈ ALLW := ALLW_in (k := 874) (by decide +kernel) (by decide +kernel)
theorem mw_875 : Cond.code yX5_undo cX5_undo 1 (some .int) ∈ ALLW := ALLW_in (k := 875) (by decide +kernel) (by decide +kernel)
theorem mw_386 : Cond.instanceMethod yX5_write ∈ ALLW := ALLW_in (k := 386) (by decide +kernel) (by decide +kernel)
theorem mw_387 : Cond.selects RX5 yX5_write yX5_write ∈ ALLW := ALLW_in (k := 387) (by decide +kernel) (by decide +kernel)
theorem mw_388 : Cond.code yX5_write cX5_write 2 (some .int) ∈ ALLW := ALLW_in (k := 388) (by decide +kernel) (by decide +kernel)
theorem mw_1126 : Cond.instanceMethod yX6_append ∈ ALLW := ALLW_in (k := 1126) (by decide +kernel) (by decide +kernel)
theorem mw_1127 : Cond.selects RX6 yX6_append yX6_append ∈ ALLW := ALLW_in (k := 1127) (by decide +kernel) (by decide +kernel)
theorem mw_1128 : Cond.code yX6_append cX6_append 2 (some .int) ∈ ALLW := ALLW_in (k := 1128) (by decide +kernel) (by decide +kernel)
theorem mw_1051 : Cond.instanceMethod yX6_balance ∈ ALLW := ALLW_in (k := 1051) (by decide +kernel) (by decide +kernel)
theorem mw_1052 : Cond.selects RX6 yX6_balance yX6_balance ∈ ALLW := ALLW_in (k := 1052) (by decide +kernel) (by decide +kernel)
theorem mw_1053 : Cond.code yX6_balance cX6_balance 4 (some .int) ∈ ALLW := ALLW_in (k := 1053) (by decide +kernel) (by decide +kernel)
theorem mw_1036 : Cond.instanceMethod yX6_burn ∈ ALLW := ALLW_in (k := 1036) (by decide +kernel) (by decide +kernel)
theorem mw_1037 : Cond.selects RX6 yX6_burn yX6_burn ∈ ALLW := ALLW_in (k := 1037) (by decide +kernel) (by decide +kernel)
theorem mw_1038 : Cond.code yX6_burn cX6_burn 3 (some .int) ∈ ALLW := ALLW_in (k := 1038) (by decide +kernel) (by decide +kernel)
theorem mw_1130 : Cond.instanceMethod yX6_clearBuffer ∈ ALLW := ALLW_in (k := 1130) (by decide +kernel) (by decide +kernel)
theorem mw_1131 : Cond.selects RX6 yX6_clearBuffer yX6_clearBuffer ∈ ALLW := ALLW_in (k := 1131) (by decide +kernel) (by decide +kernel)
theorem mw_1132 : Cond.code yX6_clearBuffer cX6_clearBuffer 2 (some .int) ∈ ALLW := ALLW_in (k := 1132) (by decide +kernel) (by decide +kernel)
theorem mw_1248 : Cond.instanceMethod yX6_couldBe ∈ ALLW := ALLW_in (k := 1248) (by decide +kernel) (by decide +kernel)
theorem mw_1249 : Cond.selects RX6 yX6_couldBe yX6_couldBe ∈ ALLW := ALLW_in (k := 1249) (by decide +kernel) (by decide +kernel)
theorem mw_1250 : Cond.code yX6_couldBe cX6_couldBe 3 (some .int) ∈ ALLW := ALLW_in (k := 1250) (by decide +kernel) (by decide +kernel)
theorem mw_1216 : Cond.instanceMethod yX6_count ∈ ALLW := ALLW_in (k := 1216) (by decide +kernel) (by decide +kernel)
theorem mw_1217 : Cond.selects RX6 yX6_count yX6_count ∈ ALLW := ALLW_in (k := 1217) (by decide +kernel) (by decide +kernel)
theorem mw_1218 : Cond.code yX6_count cX6_count 2 (some .int) ∈ ALLW := ALLW_in (k := 1218) (by decide +kernel) (by decide +kernel)
theorem mw_1043 : Cond.instanceMethod yX6_cut ∈ ALLW := ALLW_in (k := 1043) (by decide +kernel) (by decide +kernel)
theorem mw_1044 : Cond.selects RX6 yX6_cut yX6_cut ∈ ALLW := ALLW_in (k := 1044) (by decide +kernel) (by decide +kernel)
theorem mw_1045 : Cond.code yX6_cut cX6_cut 2 (some .int) ∈ ALLW := ALLW_in (k := 1045) (by decide +kernel) (by decide +kernel)
theorem mw_1296 : Cond.instanceMethod yX6_digest ∈ ALLW := ALLW_in (k := 1296) (by decide +kernel) (by decide +kernel)
theorem mw_1297 : Cond.selects RX6 yX6_digest yX6_digest ∈ ALLW := ALLW_in (k := 1297) (by decide +kernel) (by decide +kernel)
theorem mw_1298 : Cond.code yX6_digest cX6_digest 2 (some .long) ∈ ALLW := ALLW_in (k := 1298) (by decide +kernel) (by decide +kernel)
theorem mw_1032 : Cond.instanceMethod yX6_dot ∈ ALLW := ALLW_in (k := 1032) (by decide +kernel) (by decide +kernel)
theorem mw_1033 : Cond.selects RX6 yX6_dot yX6_dot ∈ ALLW := ALLW_in (k := 1033) (by decide +kernel) (by decide +kernel)
theorem mw_1034 : Cond.code yX6_dot cX6_dot 2 (some .int) ∈ ALLW := ALLW_in (k := 1034) (by decide +kernel) (by decide +kernel)
theorem mw_1134 : Cond.instanceMethod yX6_firstError ∈ ALLW := ALLW_in (k := 1134) (by decide +kernel) (by decide +kernel)
theorem mw_1135 : Cond.selects RX6 yX6_firstError yX6_firstError ∈ ALLW := ALLW_in (k := 1135) (by decide +kernel) (by decide +kernel)
theorem mw_1136 : Cond.code yX6_firstError cX6_firstError 1 (some .int) ∈ ALLW := ALLW_in (k := 1136) (by decide +kernel) (by decide +kernel)
theorem mw_1184 : Cond.instanceMethod yX6_goBack ∈ ALLW := ALLW_in (k := 1184) (by decide +kernel) (by decide +kernel)
theorem mw_1185 : Cond.selects RX6 yX6_goBack yX6_goBack ∈ ALLW := ALLW_in (k := 1185) (by decide +kernel) (by decide +kernel)
theorem mw_1186 : Cond.code yX6_goBack cX6_goBack 3 (some .int) ∈ ALLW := ALLW_in (k := 1186) (by decide +kernel) (by decide +kernel)
theorem mw_1264 : Cond.instanceMethod yX6_ifBalanced ∈ ALLW := ALLW_in (k := 1264) (by decide +kernel) (by decide +kernel)
theorem mw_1265 : Cond.selects RX6 yX6_ifBalanced yX6_ifBalanced ∈ ALLW := ALLW_in (k := 1265) (by decide +kernel) (by decide +kernel)
theorem mw_1266 : Cond.code yX6_ifBalanced cX6_ifBalanced 3 (some .int) ∈ ALLW := ALLW_in (k := 1266) (by decide +kernel) (by decide +kernel)
theorem mw_1256 : Cond.instanceMethod yX6_ifTimed ∈ ALLW := ALLW_in (k := 1256) (by decide +kernel) (by decide +kernel)
theorem mw_1257 : Cond.selects RX6 yX6_ifTimed yX6_ifTimed ∈ ALLW := ALLW_in (k := 1257) (by decide +kernel) (by decide +kernel)
theorem mw_1258 : Cond.code yX6_ifTimed cX6_ifTimed 3 (some .int) ∈ ALLW := ALLW_in (k := 1258) (by decide +kernel) (by decide +kernel)
theorem mw_1180 : Cond.instanceMethod yX6_keep ∈ ALLW := ALLW_in (k := 1180) (by decide +kernel) (by decide +kernel)
theorem mw_1181 : Cond.selects RX6 yX6_keep yX6_keep ∈ ALLW := ALLW_in (k := 1181) (by decide +kernel) (by decide +kernel)
theorem mw_1182 : Cond.code yX6_keep cX6_keep 3 (some .int) ∈ ALLW := ALLW_in (k := 1182) (by decide +kernel) (by decide +kernel)
theorem mw_1280 : Cond.instanceMethod yX6_litShare ∈ ALLW := ALLW_in (k := 1280) (by decide +kernel) (by decide +kernel)
theorem mw_1281 : Cond.selects RX6 yX6_litShare yX6_litShare ∈ ALLW := ALLW_in (k := 1281) (by decide +kernel) (by decide +kernel)
theorem mw_1282 : Cond.code yX6_litShare cX6_litShare 1 (some .double) ∈ ALLW := ALLW_in (k := 1282) (by decide +kernel) (by decide +kernel)
theorem mw_1153 : Cond.instanceMethod yX6_load ∈ ALLW := ALLW_in (k := 1153) (by decide +kernel) (by decide +kernel)
theorem mw_1154 : Cond.selects RX6 yX6_load yX6_load ∈ ALLW := ALLW_in (k := 1154) (by decide +kernel) (by decide +kernel)
theorem mw_1155 : Cond.code yX6_load cX6_load 2 (some .int) ∈ ALLW := ALLW_in (k := 1155) (by decide +kernel) (by decide +kernel)
theorem mw_1288 : Cond.instanceMethod yX6_meanBrightness ∈ ALLW := ALLW_in (k := 1288) (by decide +kernel) (by decide +kernel)
theorem mw_1289 : Cond.selects RX6 yX6_meanBrightness yX6_meanBrightness ∈ ALLW := ALLW_in (k := 1289) (by decide +kernel) (by decide +kernel)
theorem mw_1290 : Cond.code yX6_meanBrightness cX6_meanBrightness 1 (some .float) ∈ ALLW := ALLW_in (k := 1290) (by decide +kernel) (by decide +kernel)
theorem mw_1085 : Cond.instanceMethod yX6_pass ∈ ALLW := ALLW_in (k := 1085) (by decide +kernel) (by decide +kernel)
theorem mw_1086 : Cond.selects RX6 yX6_pass yX6_pass ∈ ALLW := ALLW_in (k := 1086) (by decide +kernel) (by decide +kernel)
theorem mw_1087 : Cond.code yX6_pass cX6_pass 5 (some .int) ∈ ALLW := ALLW_in (k := 1087) (by decide +kernel) (by decide +kernel)
theorem mw_1272 : Cond.instanceMethod yX6_safest ∈ ALLW := ALLW_in (k := 1272) (by decide +kernel) (by decide +kernel)
theorem mw_1273 : Cond.selects RX6 yX6_safest yX6_safest ∈ ALLW := ALLW_in (k := 1273) (by decide +kernel) (by decide +kernel)
theorem mw_1274 : Cond.code yX6_safest cX6_safest 2 (some .int) ∈ ALLW := ALLW_in (k := 1274) (by decide +kernel) (by decide +kernel)
theorem mw_1208 : Cond.instanceMethod yX6_segmentOf ∈ ALLW := ALLW_in (k := 1208) (by decide +kernel) (by decide +kernel)
theorem mw_1209 : Cond.selects RX6 yX6_segmentOf yX6_segmentOf ∈ ALLW := ALLW_in (k := 1209) (by decide +kernel) (by decide +kernel)
theorem mw_1210 : Cond.code yX6_segmentOf cX6_segmentOf 4 (some .int) ∈ ALLW := ALLW_in (k := 1210) (by decide +kernel) (by decide +kernel)
theorem mw_1081 : Cond.instanceMethod yX6_set ∈ ALLW := ALLW_in (k := 1081) (by decide +kernel) (by decide +kernel)
theorem mw_1082 : Cond.selects RX6 yX6_set yX6_set ∈ ALLW := ALLW_in (k := 1082) (by decide +kernel) (by decide +kernel)
theorem mw_1083 : Cond.code yX6_set cX6_set 5 (some .int) ∈ ALLW := ALLW_in (k := 1083) (by decide +kernel) (by decide +kernel)
theorem mw_1244 : Cond.instanceMethod yX6_setting ∈ ALLW := ALLW_in (k := 1244) (by decide +kernel) (by decide +kernel)
theorem mw_1245 : Cond.selects RX6 yX6_setting yX6_setting ∈ ALLW := ALLW_in (k := 1245) (by decide +kernel) (by decide +kernel)
theorem mw_1246 : Cond.code yX6_setting cX6_setting 2 (some .int) ∈ ALLW := ALLW_in (k := 1246) (by decide +kernel) (by decide +kernel)
theorem mw_1010 : Cond.instanceMethod yX6_show ∈ ALLW := ALLW_in (k := 1010) (by decide +kernel) (by decide +kernel)
theorem mw_1011 : Cond.selects RX6 yX6_show yX6_show ∈ ALLW := ALLW_in (k := 1011) (by decide +kernel) (by decide +kernel)
theorem mw_1012 : Cond.code yX6_show cX6_show 4 (some .int) ∈ ALLW := ALLW_in (k := 1012) (by decide +kernel) (by decide +kernel)
theorem mw_1192 : Cond.instanceMethod yX6_slotOf ∈ ALLW := ALLW_in (k := 1192) (by decide +kernel) (by decide +kernel)
theorem mw_1193 : Cond.selects RX6 yX6_slotOf yX6_slotOf ∈ ALLW := ALLW_in (k := 1193) (by decide +kernel) (by decide +kernel)
theorem mw_1194 : Cond.code yX6_slotOf cX6_slotOf 3 (some .int) ∈ ALLW := ALLW_in (k := 1194) (by decide +kernel) (by decide +kernel)
theorem mw_1006 : Cond.instanceMethod yX6_thrown ∈ ALLW := ALLW_in (k := 1006) (by decide +kernel) (by decide +kernel)
theorem mw_1007 : Cond.selects RX6 yX6_thrown yX6_thrown ∈ ALLW := ALLW_in (k := 1007) (by decide +kernel) (by decide +kernel)
theorem mw_1008 : Cond.code yX6_thrown cX6_thrown 1 (some .int) ∈ ALLW := ALLW_in (k := 1008) (by decide +kernel) (by decide +kernel)
theorem mw_1047 : Cond.instanceMethod yX6_time ∈ ALLW := ALLW_in (k := 1047) (by decide +kernel) (by decide +kernel)
theorem mw_1048 : Cond.selects RX6 yX6_time yX6_time ∈ ALLW := ALLW_in (k := 1048) (by decide +kernel) (by decide +kernel)
theorem mw_1049 : Cond.code yX6_time cX6_time 4 (some .int) ∈ ALLW := ALLW_in (k := 1049) (by decide +kernel) (by decide +kernel)
theorem mw_1188 : Cond.instanceMethod yX6_undo ∈ ALLW := ALLW_in (k := 1188) (by decide +kernel) (by decide +kernel)
theorem mw_1189 : Cond.selects RX6 yX6_undo yX6_undo ∈ ALLW := ALLW_in (k := 1189) (by decide +kernel) (by decide +kernel)
theorem mw_1190 : Cond.code yX6_undo cX6_undo 2 (some .int) ∈ ALLW := ALLW_in (k := 1190) (by decide +kernel) (by decide +kernel)
theorem mw_1157 : Cond.instanceMethod yX6_write ∈ ALLW := ALLW_in (k := 1157) (by decide +kernel) (by decide +kernel)
theorem mw_1158 : Cond.selects RX6 yX6_write yX6_write ∈ ALLW := ALLW_in (k := 1158) (by decide +kernel) (by decide +kernel)
theorem mw_1159 : Cond.code yX6_write cX6_write 2 (some .int) ∈ ALLW := ALLW_in (k := 1159) (by decide +kernel) (by decide +kernel)
theorem ko_L_append : yL_append.cls ≠ "java/lang/invoke/MethodHandle" ∧ yL_append.cls ≠ "java/lang/invoke/VarHandle" ∧ (parseMethodDescriptor yL_append.desc).map (fun d => d.parameters.length) = some 3 := by decide +kernel
theorem kw_L_append : Cond.static yL_append ∈ ALLW ∧ Cond.initialized RL ∈ ALLW ∧ Cond.codeWith yL_append cL_append 4 (some .int) [(0, 9, 12, 15), (0, 9, 15, 33)] ∈ ALLW := ⟨mw_830, mw_66, mw_831⟩
theorem ko_L_balance : yL_balance.cls ≠ "java/lang/invoke/MethodHandle" ∧ yL_balance.cls ≠ "java/lang/invoke/VarHandle" ∧ (parseMethodDescriptor yL_balance.desc).map (fun d => d.parameters.length) = some 3 := by decide +kernel
theorem kw_L_balance : Cond.static yL_balance ∈ ALLW ∧ Cond.initialized RL ∈ ALLW ∧ Cond.codeWith yL_balance cL_balance 4 (some .int) [(0, 9, 12, 15), (0, 9, 15, 33)] ∈ ALLW := ⟨mw_765, mw_66, mw_766⟩
theorem ko_L_burn : yL_burn.cls ≠ "java/lang/invoke/MethodHandle" ∧ yL_burn.cls ≠ "java/lang/invoke/VarHandle" ∧ (parseMethodDescriptor yL_burn.desc).map (fun d => d.parameters.length) = some 4 := by decide +kernel
theorem kw_L_burn : Cond.static yL_burn ∈ ALLW ∧ Cond.initialized RL ∈ ALLW ∧ Cond.codeWith yL_burn cL_burn 5 (some .int) [(0, 10, 13, 13)] ∈ ALLW := ⟨mw_736, mw_66, mw_737⟩
theorem ko_L_couldBe : yL_couldBe.cls ≠ "java/lang/invoke/MethodHandle" ∧ yL_couldBe.cls ≠ "java/lang/invoke/VarHandle" ∧ (parseMethodDescriptor yL_couldBe.desc).map (fun d => d.parameters.length) = some 4 := by decide +kernel
theorem kw_L_couldBe : Cond.static yL_couldBe ∈ ALLW ∧ Cond.initialized RL ∈ ALLW ∧ Cond.codeWith yL_couldBe cL_couldBe 5 (some .int) [(0, 10, 13, 13), (0, 10, 17, 15)] ∈ ALLW := ⟨mw_910, mw_66, mw_911⟩
theorem ko_L_count : yL_count.cls ≠ "java/lang/invoke/MethodHandle" ∧ yL_count.cls ≠ "java/lang/invoke/VarHandle" ∧ (parseMethodDescriptor yL_count.desc).map (fun d => d.parameters.length) = some 3 := by decide +kernel
theorem kw_L_count : Cond.static yL_count ∈ ALLW ∧ Cond.initialized RL ∈ ALLW ∧ Cond.codeWith yL_count cL_count 4 (some .int) [(0, 9, 12, 15)] ∈ ALLW := ⟨mw_896, mw_66, mw_897⟩
theorem ko_L_cut : yL_cut.cls ≠ "java/lang/invoke/MethodHandle" ∧ yL_cut.cls ≠ "java/lang/invoke/VarHandle" ∧ (parseMethodDescriptor yL_cut.desc).map (fun d => d.parameters.length) = some 3 := by decide +kernel
theorem kw_L_cut : Cond.static yL_cut ∈ ALLW ∧ Cond.initialized RL ∈ ALLW ∧ Cond.codeWith yL_cut cL_cut 4 (some .int) [(0, 9, 12, 13)] ∈ ALLW := ⟨mw_747, mw_66, mw_748⟩
theorem ko_L_dot : yL_dot.cls ≠ "java/lang/invoke/MethodHandle" ∧ yL_dot.cls ≠ "java/lang/invoke/VarHandle" ∧ (parseMethodDescriptor yL_dot.desc).map (fun d => d.parameters.length) = some 3 := by decide +kernel
theorem kw_L_dot : Cond.static yL_dot ∈ ALLW ∧ Cond.initialized RL ∈ ALLW ∧ Cond.codeWith yL_dot cL_dot 4 (some .int) [(0, 9, 12, 13)] ∈ ALLW := ⟨mw_729, mw_66, mw_730⟩
theorem ko_L_goBack : yL_goBack.cls ≠ "java/lang/invoke/MethodHandle" ∧ yL_goBack.cls ≠ "java/lang/invoke/VarHandle" ∧ (parseMethodDescriptor yL_goBack.desc).map (fun d => d.parameters.length) = some 3 := by decide +kernel
theorem kw_L_goBack : Cond.static yL_goBack ∈ ALLW ∧ Cond.initialized RL ∈ ALLW ∧ Cond.codeWith yL_goBack cL_goBack 4 (some .int) [(0, 9, 12, 15), (0, 9, 15, 33)] ∈ ALLW := ⟨mw_862, mw_66, mw_863⟩
theorem ko_L_ifBalanced : yL_ifBalanced.cls ≠ "java/lang/invoke/MethodHandle" ∧ yL_ifBalanced.cls ≠ "java/lang/invoke/VarHandle" ∧ (parseMethodDescriptor yL_ifBalanced.desc).map (fun d => d.parameters.length) = some 4 := by decide +kernel
theorem kw_L_ifBalanced : Cond.static yL_ifBalanced ∈ ALLW ∧ Cond.initialized RL ∈ ALLW ∧ Cond.codeWith yL_ifBalanced cL_ifBalanced 5 (some .int) [(0, 10, 13, 13), (0, 10, 17, 15)] ∈ ALLW := ⟨mw_924, mw_66, mw_925⟩
theorem ko_L_ifTimed : yL_ifTimed.cls ≠ "java/lang/invoke/MethodHandle" ∧ yL_ifTimed.cls ≠ "java/lang/invoke/VarHandle" ∧ (parseMethodDescriptor yL_ifTimed.desc).map (fun d => d.parameters.length) = some 4 := by decide +kernel
theorem kw_L_ifTimed : Cond.static yL_ifTimed ∈ ALLW ∧ Cond.initialized RL ∈ ALLW ∧ Cond.codeWith yL_ifTimed cL_ifTimed 5 (some .int) [(0, 10, 13, 13), (0, 10, 17, 15)] ∈ ALLW := ⟨mw_917, mw_66, mw_918⟩
theorem ko_L_keep : yL_keep.cls ≠ "java/lang/invoke/MethodHandle" ∧ yL_keep.cls ≠ "java/lang/invoke/VarHandle" ∧ (parseMethodDescriptor yL_keep.desc).map (fun d => d.parameters.length) = some 3 := by decide +kernel
theorem kw_L_keep : Cond.static yL_keep ∈ ALLW ∧ Cond.initialized RL ∈ ALLW ∧ Cond.codeWith yL_keep cL_keep 4 (some .int) [(0, 9, 12, 15)] ∈ ALLW := ⟨mw_851, mw_66, mw_852⟩
theorem ko_L_load : yL_load.cls ≠ "java/lang/invoke/MethodHandle" ∧ yL_load.cls ≠ "java/lang/invoke/VarHandle" ∧ (parseMethodDescriptor yL_load.desc).map (fun d => d.parameters.length) = some 2 := by decide +kernel
theorem kw_L_load : Cond.static yL_load ∈ ALLW ∧ Cond.initialized RL ∈ ALLW ∧ Cond.codeWith yL_load cL_load 3 (some .int) [(0, 8, 11, 15)] ∈ ALLW := ⟨mw_839, mw_66, mw_840⟩
theorem ko_L_pass : yL_pass.cls ≠ "java/lang/invoke/MethodHandle" ∧ yL_pass.cls ≠ "java/lang/invoke/VarHandle" ∧ (parseMethodDescriptor yL_pass.desc).map (fun d => d.parameters.length) = some 3 := by decide +kernel
theorem kw_L_pass : Cond.static yL_pass ∈ ALLW ∧ Cond.initialized RL ∈ ALLW ∧ Cond.codeWith yL_pass cL_pass 4 (some .int) [(0, 9, 12, 15), (0, 9, 15, 33)] ∈ ALLW := ⟨mw_809, mw_66, mw_810⟩
theorem ko_L_safest : yL_safest.cls ≠ "java/lang/invoke/MethodHandle" ∧ yL_safest.cls ≠ "java/lang/invoke/VarHandle" ∧ (parseMethodDescriptor yL_safest.desc).map (fun d => d.parameters.length) = some 3 := by decide +kernel
theorem kw_L_safest : Cond.static yL_safest ∈ ALLW ∧ Cond.initialized RL ∈ ALLW ∧ Cond.codeWith yL_safest cL_safest 4 (some .int) [(0, 9, 12, 13)] ∈ ALLW := ⟨mw_931, mw_66, mw_932⟩
theorem ko_L_segmentOf : yL_segmentOf.cls ≠ "java/lang/invoke/MethodHandle" ∧ yL_segmentOf.cls ≠ "java/lang/invoke/VarHandle" ∧ (parseMethodDescriptor yL_segmentOf.desc).map (fun d => d.parameters.length) = some 5 := by decide +kernel
theorem kw_L_segmentOf : Cond.static yL_segmentOf ∈ ALLW ∧ Cond.initialized RL ∈ ALLW ∧ Cond.codeWith yL_segmentOf cL_segmentOf 6 (some .int) [(0, 12, 15, 13), (0, 12, 19, 15)] ∈ ALLW := ⟨mw_889, mw_66, mw_890⟩
theorem ko_L_set : yL_set.cls ≠ "java/lang/invoke/MethodHandle" ∧ yL_set.cls ≠ "java/lang/invoke/VarHandle" ∧ (parseMethodDescriptor yL_set.desc).map (fun d => d.parameters.length) = some 4 := by decide +kernel
theorem kw_L_set : Cond.static yL_set ∈ ALLW ∧ Cond.initialized RL ∈ ALLW ∧ Cond.codeWith yL_set cL_set 5 (some .int) [(0, 10, 13, 13), (0, 10, 17, 15)] ∈ ALLW := ⟨mw_793, mw_66, mw_794⟩
theorem ko_L_setting : yL_setting.cls ≠ "java/lang/invoke/MethodHandle" ∧ yL_setting.cls ≠ "java/lang/invoke/VarHandle" ∧ (parseMethodDescriptor yL_setting.desc).map (fun d => d.parameters.length) = some 3 := by decide +kernel
theorem kw_L_setting : Cond.static yL_setting ∈ ALLW ∧ Cond.initialized RL ∈ ALLW ∧ Cond.codeWith yL_setting cL_setting 4 (some .int) [(0, 9, 12, 13)] ∈ ALLW := ⟨mw_903, mw_66, mw_904⟩
theorem ko_L_show : yL_show.cls ≠ "java/lang/invoke/MethodHandle" ∧ yL_show.cls ≠ "java/lang/invoke/VarHandle" ∧ (parseMethodDescriptor yL_show.desc).map (fun d => d.parameters.length) = some 4 := by decide +kernel
theorem kw_L_show : Cond.static yL_show ∈ ALLW ∧ Cond.initialized RL ∈ ALLW ∧ Cond.codeWith yL_show cL_show 5 (some .int) [(0, 10, 13, 13), (0, 10, 17, 15)] ∈ ALLW := ⟨mw_630, mw_66, mw_631⟩
theorem ko_L_slotOf : yL_slotOf.cls ≠ "java/lang/invoke/MethodHandle" ∧ yL_slotOf.cls ≠ "java/lang/invoke/VarHandle" ∧ (parseMethodDescriptor yL_slotOf.desc).map (fun d => d.parameters.length) = some 4 := by decide +kernel
theorem kw_L_slotOf : Cond.static yL_slotOf ∈ ALLW ∧ Cond.initialized RL ∈ ALLW ∧ Cond.codeWith yL_slotOf cL_slotOf 5 (some .int) [(0, 10, 13, 13), (0, 10, 17, 15)] ∈ ALLW := ⟨mw_878, mw_66, mw_879⟩
theorem ko_L_time : yL_time.cls ≠ "java/lang/invoke/MethodHandle" ∧ yL_time.cls ≠ "java/lang/invoke/VarHandle" ∧ (parseMethodDescriptor yL_time.desc).map (fun d => d.parameters.length) = some 4 := by decide +kernel
theorem kw_L_time : Cond.static yL_time ∈ ALLW ∧ Cond.initialized RL ∈ ALLW ∧ Cond.codeWith yL_time cL_time 5 (some .int) [(0, 10, 13, 13), (0, 10, 17, 15)] ∈ ALLW := ⟨mw_754, mw_66, mw_755⟩
theorem ko_L_undo : yL_undo.cls ≠ "java/lang/invoke/MethodHandle" ∧ yL_undo.cls ≠ "java/lang/invoke/VarHandle" ∧ (parseMethodDescriptor yL_undo.desc).map (fun d => d.parameters.length) = some 2 := by decide +kernel
theorem kw_L_undo : Cond.static yL_undo ∈ ALLW ∧ Cond.initialized RL ∈ ALLW ∧ Cond.codeWith yL_undo cL_undo 3 (some .int) [(0, 8, 11, 33)] ∈ ALLW := ⟨mw_870, mw_66, mw_871⟩
theorem ko_X5_append : yX5_append.cls ≠ "java/lang/invoke/MethodHandle" ∧ yX5_append.cls ≠ "java/lang/invoke/VarHandle" ∧ (parseMethodDescriptor yX5_append.desc).map (fun d => d.parameters.length) = some 1 := by decide +kernel
theorem kw_X5_append : Cond.instanceMethod yX5_append ∈ ALLW ∧ Cond.selects RX5 yX5_append yX5_append ∈ ALLW ∧ Cond.initialized RX5 ∈ ALLW ∧ Cond.code yX5_append cX5_append 2 (some .int) ∈ ALLW := ⟨mw_833, mw_834, mw_67, mw_835⟩
theorem ko_X5_balance : yX5_balance.cls ≠ "java/lang/invoke/MethodHandle" ∧ yX5_balance.cls ≠ "java/lang/invoke/VarHandle" ∧ (parseMethodDescriptor yX5_balance.desc).map (fun d => d.parameters.length) = some 1 := by decide +kernel
theorem kw_X5_balance : Cond.instanceMethod yX5_balance ∈ ALLW ∧ Cond.selects RX5 yX5_balance yX5_balance ∈ ALLW ∧ Cond.initialized RX5 ∈ ALLW ∧ Cond.code yX5_balance cX5_balance 4 (some .int) ∈ ALLW := ⟨mw_769, mw_770, mw_67, mw_771⟩
theorem ko_X5_burn : yX5_burn.cls ≠ "java/lang/invoke/MethodHandle" ∧ yX5_burn.cls ≠ "java/lang/invoke/VarHandle" ∧ (parseMethodDescriptor yX5_burn.desc).map (fun d => d.parameters.length) = some 2 := by decide +kernel
theorem kw_X5_burn : Cond.instanceMethod yX5_burn ∈ ALLW ∧ Cond.selects RX5 yX5_burn yX5_burn ∈ ALLW ∧ Cond.initialized RX5 ∈ ALLW ∧ Cond.code yX5_burn cX5_burn 3 (some .int) ∈ ALLW := ⟨mw_739, mw_740, mw_67, mw_741⟩
theorem ko_X5_clearBuffer : yX5_clearBuffer.cls ≠ "java/lang/invoke/MethodHandle" ∧ yX5_clearBuffer.cls ≠ "java/lang/invoke/VarHandle" ∧ (parseMethodDescriptor yX5_clearBuffer.desc).map (fun d => d.parameters.length) = some 0 := by decide +kernel
theorem kw_X5_clearBuffer : Cond.instanceMethod yX5_clearBuffer ∈ ALLW ∧ Cond.selects RX5 yX5_clearBuffer yX5_clearBuffer ∈ ALLW ∧ Cond.initialized RX5 ∈ ALLW ∧ Cond.code yX5_clearBuffer cX5_clearBuffer 2 (some .int) ∈ ALLW := ⟨mw_286, mw_287, mw_67, mw_288⟩
theorem ko_X5_couldBe : yX5_couldBe.cls ≠ "java/lang/invoke/MethodHandle" ∧ yX5_couldBe.cls ≠ "java/lang/invoke/VarHandle" ∧ (parseMethodDescriptor yX5_couldBe.desc).map (fun d => d.parameters.length) = some 2 := by decide +kernel
theorem kw_X5_couldBe : Cond.instanceMethod yX5_couldBe ∈ ALLW ∧ Cond.selects RX5 yX5_couldBe yX5_couldBe ∈ ALLW ∧ Cond.initialized RX5 ∈ ALLW ∧ Cond.code yX5_couldBe cX5_couldBe 3 (some .int) ∈ ALLW := ⟨mw_913, mw_914, mw_67, mw_915⟩
theorem ko_X5_count : yX5_count.cls ≠ "java/lang/invoke/MethodHandle" ∧ yX5_count.cls ≠ "java/lang/invoke/VarHandle" ∧ (parseMethodDescriptor yX5_count.desc).map (fun d => d.parameters.length) = some 1 := by decide +kernel
theorem kw_X5_count : Cond.instanceMethod yX5_count ∈ ALLW ∧ Cond.selects RX5 yX5_count yX5_count ∈ ALLW ∧ Cond.initialized RX5 ∈ ALLW ∧ Cond.code yX5_count cX5_count 2 (some .int) ∈ ALLW := ⟨mw_899, mw_900, mw_67, mw_901⟩
theorem ko_X5_cut : yX5_cut.cls ≠ "java/lang/invoke/MethodHandle" ∧ yX5_cut.cls ≠ "java/lang/invoke/VarHandle" ∧ (parseMethodDescriptor yX5_cut.desc).map (fun d => d.parameters.length) = some 1 := by decide +kernel
theorem kw_X5_cut : Cond.instanceMethod yX5_cut ∈ ALLW ∧ Cond.selects RX5 yX5_cut yX5_cut ∈ ALLW ∧ Cond.initialized RX5 ∈ ALLW ∧ Cond.code yX5_cut cX5_cut 2 (some .int) ∈ ALLW := ⟨mw_750, mw_751, mw_67, mw_752⟩
theorem ko_X5_digest : yX5_digest.cls ≠ "java/lang/invoke/MethodHandle" ∧ yX5_digest.cls ≠ "java/lang/invoke/VarHandle" ∧ (parseMethodDescriptor yX5_digest.desc).map (fun d => d.parameters.length) = some 0 := by decide +kernel
theorem kw_X5_digest : Cond.instanceMethod yX5_digest ∈ ALLW ∧ Cond.selects RX5 yX5_digest yX5_digest ∈ ALLW ∧ Cond.initialized RX5 ∈ ALLW ∧ Cond.code yX5_digest cX5_digest 4 (some .long) ∈ ALLW := ⟨mw_514, mw_515, mw_67, mw_516⟩
theorem ko_X5_dot : yX5_dot.cls ≠ "java/lang/invoke/MethodHandle" ∧ yX5_dot.cls ≠ "java/lang/invoke/VarHandle" ∧ (parseMethodDescriptor yX5_dot.desc).map (fun d => d.parameters.length) = some 1 := by decide +kernel
theorem kw_X5_dot : Cond.instanceMethod yX5_dot ∈ ALLW ∧ Cond.selects RX5 yX5_dot yX5_dot ∈ ALLW ∧ Cond.initialized RX5 ∈ ALLW ∧ Cond.code yX5_dot cX5_dot 2 (some .int) ∈ ALLW := ⟨mw_732, mw_733, mw_67, mw_734⟩
theorem ko_X5_firstError : yX5_firstError.cls ≠ "java/lang/invoke/MethodHandle" ∧ yX5_firstError.cls ≠ "java/lang/invoke/VarHandle" ∧ (parseMethodDescriptor yX5_firstError.desc).map (fun d => d.parameters.length) = some 0 := by decide +kernel
theorem kw_X5_firstError : Cond.instanceMethod yX5_firstError ∈ ALLW ∧ Cond.selects RX5 yX5_firstError yX5_firstError ∈ ALLW ∧ Cond.initialized RX5 ∈ ALLW ∧ Cond.code yX5_firstError cX5_firstError 1 (some .int) ∈ ALLW := ⟨mw_290, mw_291, mw_67, mw_292⟩
theorem ko_X5_goBack : yX5_goBack.cls ≠ "java/lang/invoke/MethodHandle" ∧ yX5_goBack.cls ≠ "java/lang/invoke/VarHandle" ∧ (parseMethodDescriptor yX5_goBack.desc).map (fun d => d.parameters.length) = some 1 := by decide +kernel
theorem kw_X5_goBack : Cond.instanceMethod yX5_goBack ∈ ALLW ∧ Cond.selects RX5 yX5_goBack yX5_goBack ∈ ALLW ∧ Cond.initialized RX5 ∈ ALLW ∧ Cond.code yX5_goBack cX5_goBack 2 (some .int) ∈ ALLW := ⟨mw_865, mw_866, mw_67, mw_867⟩
theorem ko_X5_ifBalanced : yX5_ifBalanced.cls ≠ "java/lang/invoke/MethodHandle" ∧ yX5_ifBalanced.cls ≠ "java/lang/invoke/VarHandle" ∧ (parseMethodDescriptor yX5_ifBalanced.desc).map (fun d => d.parameters.length) = some 2 := by decide +kernel
theorem kw_X5_ifBalanced : Cond.instanceMethod yX5_ifBalanced ∈ ALLW ∧ Cond.selects RX5 yX5_ifBalanced yX5_ifBalanced ∈ ALLW ∧ Cond.initialized RX5 ∈ ALLW ∧ Cond.code yX5_ifBalanced cX5_ifBalanced 3 (some .int) ∈ ALLW := ⟨mw_927, mw_928, mw_67, mw_929⟩
theorem ko_X5_ifTimed : yX5_ifTimed.cls ≠ "java/lang/invoke/MethodHandle" ∧ yX5_ifTimed.cls ≠ "java/lang/invoke/VarHandle" ∧ (parseMethodDescriptor yX5_ifTimed.desc).map (fun d => d.parameters.length) = some 2 := by decide +kernel
theorem kw_X5_ifTimed : Cond.instanceMethod yX5_ifTimed ∈ ALLW ∧ Cond.selects RX5 yX5_ifTimed yX5_ifTimed ∈ ALLW ∧ Cond.initialized RX5 ∈ ALLW ∧ Cond.code yX5_ifTimed cX5_ifTimed 3 (some .int) ∈ ALLW := ⟨mw_920, mw_921, mw_67, mw_922⟩
theorem ko_X5_keep : yX5_keep.cls ≠ "java/lang/invoke/MethodHandle" ∧ yX5_keep.cls ≠ "java/lang/invoke/VarHandle" ∧ (parseMethodDescriptor yX5_keep.desc).map (fun d => d.parameters.length) = some 1 := by decide +kernel
theorem kw_X5_keep : Cond.instanceMethod yX5_keep ∈ ALLW ∧ Cond.selects RX5 yX5_keep yX5_keep ∈ ALLW ∧ Cond.initialized RX5 ∈ ALLW ∧ Cond.code yX5_keep cX5_keep 2 (some .int) ∈ ALLW := ⟨mw_854, mw_855, mw_67, mw_856⟩
theorem ko_X5_load : yX5_load.cls ≠ "java/lang/invoke/MethodHandle" ∧ yX5_load.cls ≠ "java/lang/invoke/VarHandle" ∧ (parseMethodDescriptor yX5_load.desc).map (fun d => d.parameters.length) = some 0 := by decide +kernel
theorem kw_X5_load : Cond.instanceMethod yX5_load ∈ ALLW ∧ Cond.selects RX5 yX5_load yX5_load ∈ ALLW ∧ Cond.initialized RX5 ∈ ALLW ∧ Cond.code yX5_load cX5_load 2 (some .int) ∈ ALLW := ⟨mw_842, mw_843, mw_67, mw_844⟩
theorem ko_X5_pass : yX5_pass.cls ≠ "java/lang/invoke/MethodHandle" ∧ yX5_pass.cls ≠ "java/lang/invoke/VarHandle" ∧ (parseMethodDescriptor yX5_pass.desc).map (fun d => d.parameters.length) = some 1 := by decide +kernel
theorem kw_X5_pass : Cond.instanceMethod yX5_pass ∈ ALLW ∧ Cond.selects RX5 yX5_pass yX5_pass ∈ ALLW ∧ Cond.initialized RX5 ∈ ALLW ∧ Cond.code yX5_pass cX5_pass 4 (some .int) ∈ ALLW := ⟨mw_812, mw_813, mw_67, mw_814⟩
theorem ko_X5_safest : yX5_safest.cls ≠ "java/lang/invoke/MethodHandle" ∧ yX5_safest.cls ≠ "java/lang/invoke/VarHandle" ∧ (parseMethodDescriptor yX5_safest.desc).map (fun d => d.parameters.length) = some 1 := by decide +kernel
theorem kw_X5_safest : Cond.instanceMethod yX5_safest ∈ ALLW ∧ Cond.selects RX5 yX5_safest yX5_safest ∈ ALLW ∧ Cond.initialized RX5 ∈ ALLW ∧ Cond.code yX5_safest cX5_safest 2 (some .int) ∈ ALLW := ⟨mw_934, mw_935, mw_67, mw_936⟩
theorem ko_X5_segmentOf : yX5_segmentOf.cls ≠ "java/lang/invoke/MethodHandle" ∧ yX5_segmentOf.cls ≠ "java/lang/invoke/VarHandle" ∧ (parseMethodDescriptor yX5_segmentOf.desc).map (fun d => d.parameters.length) = some 3 := by decide +kernel
theorem kw_X5_segmentOf : Cond.instanceMethod yX5_segmentOf ∈ ALLW ∧ Cond.selects RX5 yX5_segmentOf yX5_segmentOf ∈ ALLW ∧ Cond.initialized RX5 ∈ ALLW ∧ Cond.code yX5_segmentOf cX5_segmentOf 4 (some .int) ∈ ALLW := ⟨mw_892, mw_893, mw_67, mw_894⟩
theorem ko_X5_set : yX5_set.cls ≠ "java/lang/invoke/MethodHandle" ∧ yX5_set.cls ≠ "java/lang/invoke/VarHandle" ∧ (parseMethodDescriptor yX5_set.desc).map (fun d => d.parameters.length) = some 2 := by decide +kernel
theorem kw_X5_set : Cond.instanceMethod yX5_set ∈ ALLW ∧ Cond.selects RX5 yX5_set yX5_set ∈ ALLW ∧ Cond.initialized RX5 ∈ ALLW ∧ Cond.code yX5_set cX5_set 4 (some .int) ∈ ALLW := ⟨mw_796, mw_797, mw_67, mw_798⟩
theorem ko_X5_setting : yX5_setting.cls ≠ "java/lang/invoke/MethodHandle" ∧ yX5_setting.cls ≠ "java/lang/invoke/VarHandle" ∧ (parseMethodDescriptor yX5_setting.desc).map (fun d => d.parameters.length) = some 1 := by decide +kernel
theorem kw_X5_setting : Cond.instanceMethod yX5_setting ∈ ALLW ∧ Cond.selects RX5 yX5_setting yX5_setting ∈ ALLW ∧ Cond.initialized RX5 ∈ ALLW ∧ Cond.code yX5_setting cX5_setting 2 (some .int) ∈ ALLW := ⟨mw_906, mw_907, mw_67, mw_908⟩
theorem ko_X5_show : yX5_show.cls ≠ "java/lang/invoke/MethodHandle" ∧ yX5_show.cls ≠ "java/lang/invoke/VarHandle" ∧ (parseMethodDescriptor yX5_show.desc).map (fun d => d.parameters.length) = some 2 := by decide +kernel
theorem kw_X5_show : Cond.instanceMethod yX5_show ∈ ALLW ∧ Cond.selects RX5 yX5_show yX5_show ∈ ALLW ∧ Cond.initialized RX5 ∈ ALLW ∧ Cond.code yX5_show cX5_show 4 (some .int) ∈ ALLW := ⟨mw_635, mw_636, mw_67, mw_637⟩
theorem ko_X5_slotOf : yX5_slotOf.cls ≠ "java/lang/invoke/MethodHandle" ∧ yX5_slotOf.cls ≠ "java/lang/invoke/VarHandle" ∧ (parseMethodDescriptor yX5_slotOf.desc).map (fun d => d.parameters.length) = some 2 := by decide +kernel
theorem kw_X5_slotOf : Cond.instanceMethod yX5_slotOf ∈ ALLW ∧ Cond.selects RX5 yX5_slotOf yX5_slotOf ∈ ALLW ∧ Cond.initialized RX5 ∈ ALLW ∧ Cond.code yX5_slotOf cX5_slotOf 3 (some .int) ∈ ALLW := ⟨mw_881, mw_882, mw_67, mw_883⟩
theorem ko_X5_time : yX5_time.cls ≠ "java/lang/invoke/MethodHandle" ∧ yX5_time.cls ≠ "java/lang/invoke/VarHandle" ∧ (parseMethodDescriptor yX5_time.desc).map (fun d => d.parameters.length) = some 2 := by decide +kernel
theorem kw_X5_time : Cond.instanceMethod yX5_time ∈ ALLW ∧ Cond.selects RX5 yX5_time yX5_time ∈ ALLW ∧ Cond.initialized RX5 ∈ ALLW ∧ Cond.code yX5_time cX5_time 4 (some .int) ∈ ALLW := ⟨mw_757, mw_758, mw_67, mw_759⟩
theorem ko_X5_undo : yX5_undo.cls ≠ "java/lang/invoke/MethodHandle" ∧ yX5_undo.cls ≠ "java/lang/invoke/VarHandle" ∧ (parseMethodDescriptor yX5_undo.desc).map (fun d => d.parameters.length) = some 0 := by decide +kernel
theorem kw_X5_undo : Cond.instanceMethod yX5_undo ∈ ALLW ∧ Cond.selects RX5 yX5_undo yX5_undo ∈ ALLW ∧ Cond.initialized RX5 ∈ ALLW ∧ Cond.code yX5_undo cX5_undo 1 (some .int) ∈ ALLW := ⟨mw_873, mw_874, mw_67, mw_875⟩
theorem ko_X5_write : yX5_write.cls ≠ "java/lang/invoke/MethodHandle" ∧ yX5_write.cls ≠ "java/lang/invoke/VarHandle" ∧ (parseMethodDescriptor yX5_write.desc).map (fun d => d.parameters.length) = some 0 := by decide +kernel
theorem kw_X5_write : Cond.instanceMethod yX5_write ∈ ALLW ∧ Cond.selects RX5 yX5_write yX5_write ∈ ALLW ∧ Cond.initialized RX5 ∈ ALLW ∧ Cond.code yX5_write cX5_write 2 (some .int) ∈ ALLW := ⟨mw_386, mw_387, mw_67, mw_388⟩
theorem ko_X6_append : yX6_append.cls ≠ "java/lang/invoke/MethodHandle" ∧ yX6_append.cls ≠ "java/lang/invoke/VarHandle" ∧ (parseMethodDescriptor yX6_append.desc).map (fun d => d.parameters.length) = some 1 := by decide +kernel
theorem kw_X6_append : Cond.instanceMethod yX6_append ∈ ALLW ∧ Cond.selects RX6 yX6_append yX6_append ∈ ALLW ∧ Cond.initialized RX6 ∈ ALLW ∧ Cond.code yX6_append cX6_append 2 (some .int) ∈ ALLW := ⟨mw_1126, mw_1127, mw_73, mw_1128⟩
theorem ko_X6_balance : yX6_balance.cls ≠ "java/lang/invoke/MethodHandle" ∧ yX6_balance.cls ≠ "java/lang/invoke/VarHandle" ∧ (parseMethodDescriptor yX6_balance.desc).map (fun d => d.parameters.length) = some 1 := by decide +kernel
theorem kw_X6_balance : Cond.instanceMethod yX6_balance ∈ ALLW ∧ Cond.selects RX6 yX6_balance yX6_balance ∈ ALLW ∧ Cond.initialized RX6 ∈ ALLW ∧ Cond.code yX6_balance cX6_balance 4 (some .int) ∈ ALLW := ⟨mw_1051, mw_1052, mw_73, mw_1053⟩
theorem ko_X6_burn : yX6_burn.cls ≠ "java/lang/invoke/MethodHandle" ∧ yX6_burn.cls ≠ "java/lang/invoke/VarHandle" ∧ (parseMethodDescriptor yX6_burn.desc).map (fun d => d.parameters.length) = some 2 := by decide +kernel
theorem kw_X6_burn : Cond.instanceMethod yX6_burn ∈ ALLW ∧ Cond.selects RX6 yX6_burn yX6_burn ∈ ALLW ∧ Cond.initialized RX6 ∈ ALLW ∧ Cond.code yX6_burn cX6_burn 3 (some .int) ∈ ALLW := ⟨mw_1036, mw_1037, mw_73, mw_1038⟩
theorem ko_X6_clearBuffer : yX6_clearBuffer.cls ≠ "java/lang/invoke/MethodHandle" ∧ yX6_clearBuffer.cls ≠ "java/lang/invoke/VarHandle" ∧ (parseMethodDescriptor yX6_clearBuffer.desc).map (fun d => d.parameters.length) = some 0 := by decide +kernel
theorem kw_X6_clearBuffer : Cond.instanceMethod yX6_clearBuffer ∈ ALLW ∧ Cond.selects RX6 yX6_clearBuffer yX6_clearBuffer ∈ ALLW ∧ Cond.initialized RX6 ∈ ALLW ∧ Cond.code yX6_clearBuffer cX6_clearBuffer 2 (some .int) ∈ ALLW := ⟨mw_1130, mw_1131, mw_73, mw_1132⟩
theorem ko_X6_couldBe : yX6_couldBe.cls ≠ "java/lang/invoke/MethodHandle" ∧ yX6_couldBe.cls ≠ "java/lang/invoke/VarHandle" ∧ (parseMethodDescriptor yX6_couldBe.desc).map (fun d => d.parameters.length) = some 2 := by decide +kernel
theorem kw_X6_couldBe : Cond.instanceMethod yX6_couldBe ∈ ALLW ∧ Cond.selects RX6 yX6_couldBe yX6_couldBe ∈ ALLW ∧ Cond.initialized RX6 ∈ ALLW ∧ Cond.code yX6_couldBe cX6_couldBe 3 (some .int) ∈ ALLW := ⟨mw_1248, mw_1249, mw_73, mw_1250⟩
theorem ko_X6_count : yX6_count.cls ≠ "java/lang/invoke/MethodHandle" ∧ yX6_count.cls ≠ "java/lang/invoke/VarHandle" ∧ (parseMethodDescriptor yX6_count.desc).map (fun d => d.parameters.length) = some 1 := by decide +kernel
theorem kw_X6_count : Cond.instanceMethod yX6_count ∈ ALLW ∧ Cond.selects RX6 yX6_count yX6_count ∈ ALLW ∧ Cond.initialized RX6 ∈ ALLW ∧ Cond.code yX6_count cX6_count 2 (some .int) ∈ ALLW := ⟨mw_1216, mw_1217, mw_73, mw_1218⟩
theorem ko_X6_cut : yX6_cut.cls ≠ "java/lang/invoke/MethodHandle" ∧ yX6_cut.cls ≠ "java/lang/invoke/VarHandle" ∧ (parseMethodDescriptor yX6_cut.desc).map (fun d => d.parameters.length) = some 1 := by decide +kernel
theorem kw_X6_cut : Cond.instanceMethod yX6_cut ∈ ALLW ∧ Cond.selects RX6 yX6_cut yX6_cut ∈ ALLW ∧ Cond.initialized RX6 ∈ ALLW ∧ Cond.code yX6_cut cX6_cut 2 (some .int) ∈ ALLW := ⟨mw_1043, mw_1044, mw_73, mw_1045⟩
theorem ko_X6_digest : yX6_digest.cls ≠ "java/lang/invoke/MethodHandle" ∧ yX6_digest.cls ≠ "java/lang/invoke/VarHandle" ∧ (parseMethodDescriptor yX6_digest.desc).map (fun d => d.parameters.length) = some 0 := by decide +kernel
theorem kw_X6_digest : Cond.instanceMethod yX6_digest ∈ ALLW ∧ Cond.selects RX6 yX6_digest yX6_digest ∈ ALLW ∧ Cond.initialized RX6 ∈ ALLW ∧ Cond.code yX6_digest cX6_digest 2 (some .long) ∈ ALLW := ⟨mw_1296, mw_1297, mw_73, mw_1298⟩
theorem ko_X6_dot : yX6_dot.cls ≠ "java/lang/invoke/MethodHandle" ∧ yX6_dot.cls ≠ "java/lang/invoke/VarHandle" ∧ (parseMethodDescriptor yX6_dot.desc).map (fun d => d.parameters.length) = some 1 := by decide +kernel
theorem kw_X6_dot : Cond.instanceMethod yX6_dot ∈ ALLW ∧ Cond.selects RX6 yX6_dot yX6_dot ∈ ALLW ∧ Cond.initialized RX6 ∈ ALLW ∧ Cond.code yX6_dot cX6_dot 2 (some .int) ∈ ALLW := ⟨mw_1032, mw_1033, mw_73, mw_1034⟩
theorem ko_X6_firstError : yX6_firstError.cls ≠ "java/lang/invoke/MethodHandle" ∧ yX6_firstError.cls ≠ "java/lang/invoke/VarHandle" ∧ (parseMethodDescriptor yX6_firstError.desc).map (fun d => d.parameters.length) = some 0 := by decide +kernel
theorem kw_X6_firstError : Cond.instanceMethod yX6_firstError ∈ ALLW ∧ Cond.selects RX6 yX6_firstError yX6_firstError ∈ ALLW ∧ Cond.initialized RX6 ∈ ALLW ∧ Cond.code yX6_firstError cX6_firstError 1 (some .int) ∈ ALLW := ⟨mw_1134, mw_1135, mw_73, mw_1136⟩
theorem ko_X6_goBack : yX6_goBack.cls ≠ "java/lang/invoke/MethodHandle" ∧ yX6_goBack.cls ≠ "java/lang/invoke/VarHandle" ∧ (parseMethodDescriptor yX6_goBack.desc).map (fun d => d.parameters.length) = some 1 := by decide +kernel
theorem kw_X6_goBack : Cond.instanceMethod yX6_goBack ∈ ALLW ∧ Cond.selects RX6 yX6_goBack yX6_goBack ∈ ALLW ∧ Cond.initialized RX6 ∈ ALLW ∧ Cond.code yX6_goBack cX6_goBack 3 (some .int) ∈ ALLW := ⟨mw_1184, mw_1185, mw_73, mw_1186⟩
theorem ko_X6_ifBalanced : yX6_ifBalanced.cls ≠ "java/lang/invoke/MethodHandle" ∧ yX6_ifBalanced.cls ≠ "java/lang/invoke/VarHandle" ∧ (parseMethodDescriptor yX6_ifBalanced.desc).map (fun d => d.parameters.length) = some 2 := by decide +kernel
theorem kw_X6_ifBalanced : Cond.instanceMethod yX6_ifBalanced ∈ ALLW ∧ Cond.selects RX6 yX6_ifBalanced yX6_ifBalanced ∈ ALLW ∧ Cond.initialized RX6 ∈ ALLW ∧ Cond.code yX6_ifBalanced cX6_ifBalanced 3 (some .int) ∈ ALLW := ⟨mw_1264, mw_1265, mw_73, mw_1266⟩
theorem ko_X6_ifTimed : yX6_ifTimed.cls ≠ "java/lang/invoke/MethodHandle" ∧ yX6_ifTimed.cls ≠ "java/lang/invoke/VarHandle" ∧ (parseMethodDescriptor yX6_ifTimed.desc).map (fun d => d.parameters.length) = some 2 := by decide +kernel
theorem kw_X6_ifTimed : Cond.instanceMethod yX6_ifTimed ∈ ALLW ∧ Cond.selects RX6 yX6_ifTimed yX6_ifTimed ∈ ALLW ∧ Cond.initialized RX6 ∈ ALLW ∧ Cond.code yX6_ifTimed cX6_ifTimed 3 (some .int) ∈ ALLW := ⟨mw_1256, mw_1257, mw_73, mw_1258⟩
theorem ko_X6_keep : yX6_keep.cls ≠ "java/lang/invoke/MethodHandle" ∧ yX6_keep.cls ≠ "java/lang/invoke/VarHandle" ∧ (parseMethodDescriptor yX6_keep.desc).map (fun d => d.parameters.length) = some 1 := by decide +kernel
theorem kw_X6_keep : Cond.instanceMethod yX6_keep ∈ ALLW ∧ Cond.selects RX6 yX6_keep yX6_keep ∈ ALLW ∧ Cond.initialized RX6 ∈ ALLW ∧ Cond.code yX6_keep cX6_keep 3 (some .int) ∈ ALLW := ⟨mw_1180, mw_1181, mw_73, mw_1182⟩
theorem ko_X6_litShare : yX6_litShare.cls ≠ "java/lang/invoke/MethodHandle" ∧ yX6_litShare.cls ≠ "java/lang/invoke/VarHandle" ∧ (parseMethodDescriptor yX6_litShare.desc).map (fun d => d.parameters.length) = some 0 := by decide +kernel
theorem kw_X6_litShare : Cond.instanceMethod yX6_litShare ∈ ALLW ∧ Cond.selects RX6 yX6_litShare yX6_litShare ∈ ALLW ∧ Cond.initialized RX6 ∈ ALLW ∧ Cond.code yX6_litShare cX6_litShare 1 (some .double) ∈ ALLW := ⟨mw_1280, mw_1281, mw_73, mw_1282⟩
theorem ko_X6_load : yX6_load.cls ≠ "java/lang/invoke/MethodHandle" ∧ yX6_load.cls ≠ "java/lang/invoke/VarHandle" ∧ (parseMethodDescriptor yX6_load.desc).map (fun d => d.parameters.length) = some 0 := by decide +kernel
theorem kw_X6_load : Cond.instanceMethod yX6_load ∈ ALLW ∧ Cond.selects RX6 yX6_load yX6_load ∈ ALLW ∧ Cond.initialized RX6 ∈ ALLW ∧ Cond.code yX6_load cX6_load 2 (some .int) ∈ ALLW := ⟨mw_1153, mw_1154, mw_73, mw_1155⟩
theorem ko_X6_meanBrightness : yX6_meanBrightness.cls ≠ "java/lang/invoke/MethodHandle" ∧ yX6_meanBrightness.cls ≠ "java/lang/invoke/VarHandle" ∧ (parseMethodDescriptor yX6_meanBrightness.desc).map (fun d => d.parameters.length) = some 0 := by decide +kernel
theorem kw_X6_meanBrightness : Cond.instanceMethod yX6_meanBrightness ∈ ALLW ∧ Cond.selects RX6 yX6_meanBrightness yX6_meanBrightness ∈ ALLW ∧ Cond.initialized RX6 ∈ ALLW ∧ Cond.code yX6_meanBrightness cX6_meanBrightness 1 (some .float) ∈ ALLW := ⟨mw_1288, mw_1289, mw_73, mw_1290⟩
theorem ko_X6_pass : yX6_pass.cls ≠ "java/lang/invoke/MethodHandle" ∧ yX6_pass.cls ≠ "java/lang/invoke/VarHandle" ∧ (parseMethodDescriptor yX6_pass.desc).map (fun d => d.parameters.length) = some 1 := by decide +kernel
theorem kw_X6_pass : Cond.instanceMethod yX6_pass ∈ ALLW ∧ Cond.selects RX6 yX6_pass yX6_pass ∈ ALLW ∧ Cond.initialized RX6 ∈ ALLW ∧ Cond.code yX6_pass cX6_pass 5 (some .int) ∈ ALLW := ⟨mw_1085, mw_1086, mw_73, mw_1087⟩
theorem ko_X6_safest : yX6_safest.cls ≠ "java/lang/invoke/MethodHandle" ∧ yX6_safest.cls ≠ "java/lang/invoke/VarHandle" ∧ (parseMethodDescriptor yX6_safest.desc).map (fun d => d.parameters.length) = some 1 := by decide +kernel
theorem kw_X6_safest : Cond.instanceMethod yX6_safest ∈ ALLW ∧ Cond.selects RX6 yX6_safest yX6_safest ∈ ALLW ∧ Cond.initialized RX6 ∈ ALLW ∧ Cond.code yX6_safest cX6_safest 2 (some .int) ∈ ALLW := ⟨mw_1272, mw_1273, mw_73, mw_1274⟩
theorem ko_X6_segmentOf : yX6_segmentOf.cls ≠ "java/lang/invoke/MethodHandle" ∧ yX6_segmentOf.cls ≠ "java/lang/invoke/VarHandle" ∧ (parseMethodDescriptor yX6_segmentOf.desc).map (fun d => d.parameters.length) = some 3 := by decide +kernel
theorem kw_X6_segmentOf : Cond.instanceMethod yX6_segmentOf ∈ ALLW ∧ Cond.selects RX6 yX6_segmentOf yX6_segmentOf ∈ ALLW ∧ Cond.initialized RX6 ∈ ALLW ∧ Cond.code yX6_segmentOf cX6_segmentOf 4 (some .int) ∈ ALLW := ⟨mw_1208, mw_1209, mw_73, mw_1210⟩
theorem ko_X6_set : yX6_set.cls ≠ "java/lang/invoke/MethodHandle" ∧ yX6_set.cls ≠ "java/lang/invoke/VarHandle" ∧ (parseMethodDescriptor yX6_set.desc).map (fun d => d.parameters.length) = some 2 := by decide +kernel
theorem kw_X6_set : Cond.instanceMethod yX6_set ∈ ALLW ∧ Cond.selects RX6 yX6_set yX6_set ∈ ALLW ∧ Cond.initialized RX6 ∈ ALLW ∧ Cond.code yX6_set cX6_set 5 (some .int) ∈ ALLW := ⟨mw_1081, mw_1082, mw_73, mw_1083⟩
theorem ko_X6_setting : yX6_setting.cls ≠ "java/lang/invoke/MethodHandle" ∧ yX6_setting.cls ≠ "java/lang/invoke/VarHandle" ∧ (parseMethodDescriptor yX6_setting.desc).map (fun d => d.parameters.length) = some 1 := by decide +kernel
theorem kw_X6_setting : Cond.instanceMethod yX6_setting ∈ ALLW ∧ Cond.selects RX6 yX6_setting yX6_setting ∈ ALLW ∧ Cond.initialized RX6 ∈ ALLW ∧ Cond.code yX6_setting cX6_setting 2 (some .int) ∈ ALLW := ⟨mw_1244, mw_1245, mw_73, mw_1246⟩
theorem ko_X6_show : yX6_show.cls ≠ "java/lang/invoke/MethodHandle" ∧ yX6_show.cls ≠ "java/lang/invoke/VarHandle" ∧ (parseMethodDescriptor yX6_show.desc).map (fun d => d.parameters.length) = some 2 := by decide +kernel
theorem kw_X6_show : Cond.instanceMethod yX6_show ∈ ALLW ∧ Cond.selects RX6 yX6_show yX6_show ∈ ALLW ∧ Cond.initialized RX6 ∈ ALLW ∧ Cond.code yX6_show cX6_show 4 (some .int) ∈ ALLW := ⟨mw_1010, mw_1011, mw_73, mw_1012⟩
theorem ko_X6_slotOf : yX6_slotOf.cls ≠ "java/lang/invoke/MethodHandle" ∧ yX6_slotOf.cls ≠ "java/lang/invoke/VarHandle" ∧ (parseMethodDescriptor yX6_slotOf.desc).map (fun d => d.parameters.length) = some 2 := by decide +kernel
theorem kw_X6_slotOf : Cond.instanceMethod yX6_slotOf ∈ ALLW ∧ Cond.selects RX6 yX6_slotOf yX6_slotOf ∈ ALLW ∧ Cond.initialized RX6 ∈ ALLW ∧ Cond.code yX6_slotOf cX6_slotOf 3 (some .int) ∈ ALLW := ⟨mw_1192, mw_1193, mw_73, mw_1194⟩
theorem ko_X6_thrown : yX6_thrown.cls ≠ "java/lang/invoke/MethodHandle" ∧ yX6_thrown.cls ≠ "java/lang/invoke/VarHandle" ∧ (parseMethodDescriptor yX6_thrown.desc).map (fun d => d.parameters.length) = some 0 := by decide +kernel
theorem kw_X6_thrown : Cond.instanceMethod yX6_thrown ∈ ALLW ∧ Cond.selects RX6 yX6_thrown yX6_thrown ∈ ALLW ∧ Cond.initialized RX6 ∈ ALLW ∧ Cond.code yX6_thrown cX6_thrown 1 (some .int) ∈ ALLW := ⟨mw_1006, mw_1007, mw_73, mw_1008⟩
theorem ko_X6_time : yX6_time.cls ≠ "java/lang/invoke/MethodHandle" ∧ yX6_time.cls ≠ "java/lang/invoke/VarHandle" ∧ (parseMethodDescriptor yX6_time.desc).map (fun d => d.parameters.length) = some 2 := by decide +kernel
theorem kw_X6_time : Cond.instanceMethod yX6_time ∈ ALLW ∧ Cond.selects RX6 yX6_time yX6_time ∈ ALLW ∧ Cond.initialized RX6 ∈ ALLW ∧ Cond.code yX6_time cX6_time 4 (some .int) ∈ ALLW := ⟨mw_1047, mw_1048, mw_73, mw_1049⟩
theorem ko_X6_undo : yX6_undo.cls ≠ "java/lang/invoke/MethodHandle" ∧ yX6_undo.cls ≠ "java/lang/invoke/VarHandle" ∧ (parseMethodDescriptor yX6_undo.desc).map (fun d => d.parameters.length) = some 0 := by decide +kernel
theorem kw_X6_undo : Cond.instanceMethod yX6_undo ∈ ALLW ∧ Cond.selects RX6 yX6_undo yX6_undo ∈ ALLW ∧ Cond.initialized RX6 ∈ ALLW ∧ Cond.code yX6_undo cX6_undo 2 (some .int) ∈ ALLW := ⟨mw_1188, mw_1189, mw_73, mw_1190⟩
theorem ko_X6_write : yX6_write.cls ≠ "java/lang/invoke/MethodHandle" ∧ yX6_write.cls ≠ "java/lang/invoke/VarHandle" ∧ (parseMethodDescriptor yX6_write.desc).map (fun d => d.parameters.length) = some 0 := by decide +kernel
theorem kw_X6_write : Cond.instanceMethod yX6_write ∈ ALLW ∧ Cond.selects RX6 yX6_write yX6_write ∈ ALLW ∧ Cond.initialized RX6 ∈ ALLW ∧ Cond.code yX6_write cX6_write 2 (some .int) ∈ ALLW := ⟨mw_1157, mw_1158, mw_73, mw_1159⟩
noncomputable def fL_show (x1 : Int32) (x2 : Int32) (mm : gM) : Option (Int32 × gM) := bx2 (fX5_show x1 x2 mm) (fun E_ m1 => if E_ = "java/lang/IndexOutOfBoundsException" then some ((1 : Int32), m1) else (if E_ = "java/lang/IllegalArgumentException" then some ((2 : Int32), m1) else (none))) (fun r m1 => some ((0 : Int32), sl m1 34 0 r.toInt64))
abbrev rm_L_show : Room := { frames := 8, cells := 2, slots := 12, locals := 125 }
noncomputable def fL_dot (x1 : Int32) (mm : gM) : Option (Int32 × gM) := bx2 (fX5_dot x1 mm) (fun E_ m1 => if E_ = "java/lang/IndexOutOfBoundsException" then some ((1 : Int32), m1) else (none)) (fun r m1 => some ((0 : Int32), sl m1 34 0 r.toInt64))
abbrev rm_L_dot : Room := { frames := 8, cells := 1, slots := 6, locals := 123 }
noncomputable def fL_burn (x1 : Int32) (x2 : Int32) (mm : gM) : Option (Int32 × gM) := bx2 (fX5_burn x1 x2 mm) (fun E_ m1 => if E_ = "java/lang/IndexOutOfBoundsException" then some ((1 : Int32), m1) else (none)) (fun r m1 => some ((0 : Int32), sl m1 34 0 r.toInt64))
abbrev rm_L_burn : Room := { frames := 8, cells := 2, slots := 12, locals := 124 }
noncomputable def fL_cut (x1 : Int32) (mm : gM) : Option (Int32 × gM) := bx2 (fX5_cut x1 mm) (fun E_ m1 => if E_ = "java/lang/IndexOutOfBoundsException" then some ((1 : Int32), m1) else (none)) (fun r m1 => some ((0 : Int32), sl m1 34 0 r.toInt64))
abbrev rm_L_cut : Room := { frames := 8, cells := 1, slots := 6, locals := 123 }
noncomputable def fL_time (x1 : Int32) (x2 : Int32) (mm : gM) : Option (Int32 × gM) := bx2 (fX5_time x1 x2 mm) (fun E_ m1 => if E_ = "java/lang/IndexOutOfBoundsException" then some ((1 : Int32), m1) else (if E_ = "java/lang/IllegalArgumentException" then some ((2 : Int32), m1) else (none))) (fun r m1 => some ((0 : Int32), sl m1 34 0 r.toInt64))
abbrev rm_L_time : Room := { frames := 8, cells := 2, slots := 12, locals := 125 }
noncomputable def fL_balance (x1 : Int32) (mm : gM) : Option (Int32 × gM) := bx2 (fX5_balance x1 mm) (fun E_ m1 => if E_ = "java/lang/IllegalArgumentException" then some ((1 : Int32), m1) else (if E_ = "java/lang/IllegalStateException" then some ((2 : Int32), m1) else (none))) (fun r m1 => some ((0 : Int32), sl m1 34 0 r.toInt64))
abbrev rm_L_balance : Room := { frames := 8, cells := 2, slots := 12, locals := 125 }
noncomputable def fL_set (x1 : Int32) (x2 : Int32) (mm : gM) : Option (Int32 × gM) := bx2 (fX5_set x1 x2 mm) (fun E_ m1 => if E_ = "java/lang/IndexOutOfBoundsException" then some ((1 : Int32), m1) else (if E_ = "java/lang/IllegalArgumentException" then some ((2 : Int32), m1) else (none))) (fun r m1 => some ((0 : Int32), sl m1 34 0 r.toInt64))
abbrev rm_L_set : Room := { frames := 8, cells := 2, slots := 12, locals := 125 }
noncomputable def fL_pass (x1 : Int32) (mm : gM) : Option (Int32 × gM) := bx2 (fX5_pass x1 mm) (fun E_ m1 => if E_ = "java/lang/IllegalArgumentException" then some ((1 : Int32), m1) else (if E_ = "java/lang/IllegalStateException" then some ((2 : Int32), m1) else (none))) (fun r m1 => some ((0 : Int32), sl m1 34 0 r.toInt64))
abbrev rm_L_pass : Room := { frames := 7, cells := 1, slots := 6, locals := 124 }
noncomputable def fL_append (x1 : Int32) (mm : gM) : Option (Int32 × gM) := bx2 (fX5_append x1 mm) (fun E_ m1 => if E_ = "java/lang/IllegalArgumentException" then some ((1 : Int32), m1) else (if E_ = "java/lang/IllegalStateException" then some ((2 : Int32), m1) else (none))) (fun r m1 => some ((0 : Int32), sl m1 34 0 r.toInt64))
abbrev rm_L_append : Room := { frames := 7, cells := 1, slots := 6, locals := 103 }
noncomputable def fL_load (mm : gM) : Option (Int32 × gM) := bx2 (fX5_load mm) (fun E_ m1 => if E_ = "java/lang/IllegalArgumentException" then some ((1 : Int32), m1) else (none)) (fun r m1 => some ((0 : Int32), sl m1 34 0 r.toInt64))
abbrev rm_L_load : Room := { frames := 7, cells := 1, slots := 6, locals := 135 }
noncomputable def fL_keep (x1 : Int32) (mm : gM) : Option (Int32 × gM) := bx2 (fX5_keep x1 mm) (fun E_ m1 => if E_ = "java/lang/IllegalArgumentException" then some ((1 : Int32), m1) else (none)) (fun r m1 => some ((0 : Int32), sl m1 34 0 r.toInt64))
abbrev rm_L_keep : Room := { frames := 8, cells := 1, slots := 6, locals := 123 }
noncomputable def fL_goBack (x1 : Int32) (mm : gM) : Option (Int32 × gM) := bx2 (fX5_goBack x1 mm) (fun E_ m1 => if E_ = "java/lang/IllegalArgumentException" then some ((1 : Int32), m1) else (if E_ = "java/lang/IllegalStateException" then some ((2 : Int32), m1) else (none))) (fun r m1 => some ((0 : Int32), sl m1 34 0 r.toInt64))
abbrev rm_L_goBack : Room := { frames := 8, cells := 2, slots := 12, locals := 123 }
noncomputable def fL_undo (mm : gM) : Option (Int32 × gM) := bx2 (fX5_undo mm) (fun E_ m1 => if E_ = "java/lang/IllegalStateException" then some ((1 : Int32), m1) else (none)) (fun r m1 => some ((0 : Int32), sl m1 34 0 r.toInt64))
abbrev rm_L_undo : Room := { frames := 7, cells := 1, slots := 6, locals := 102 }
noncomputable def fL_slotOf (x1 : Int32) (x2 : Int32) (mm : gM) : Option (Int32 × gM) := bx2 (fX5_slotOf x1 x2 mm) (fun E_ m1 => if E_ = "java/lang/IndexOutOfBoundsException" then some ((1 : Int32), m1) else (if E_ = "java/lang/IllegalArgumentException" then some ((2 : Int32), m1) else (none))) (fun r m1 => some ((0 : Int32), sl m1 34 0 r.toInt64))
abbrev rm_L_slotOf : Room := { frames := 8, cells := 2, slots := 12, locals := 142 }
noncomputable def fL_segmentOf (x1 : Int32) (x2 : Int32) (x3 : Int32) (mm : gM) : Option (Int32 × gM) := bx2 (fX5_segmentOf x1 x2 x3 mm) (fun E_ m1 => if E_ = "java/lang/IndexOutOfBoundsException" then some ((1 : Int32), m1) else (if E_ = "java/lang/IllegalArgumentException" then some ((2 : Int32), m1) else (none))) (fun r m1 => some ((0 : Int32), sl m1 34 0 r.toInt64))
abbrev rm_L_segmentOf : Room := { frames := 8, cells := 3, slots := 18, locals := 145 }
noncomputable def fL_count (x1 : Int32) (mm : gM) : Option (Int32 × gM) := bx2 (fX5_count x1 mm) (fun E_ m1 => if E_ = "java/lang/IllegalArgumentException" then some ((1 : Int32), m1) else (none)) (fun r m1 => some ((0 : Int32), sl m1 34 0 r.toInt64))
abbrev rm_L_count : Room := { frames := 8, cells := 1, slots := 6, locals := 165 }
noncomputable def fL_setting (x1 : Int32) (mm : gM) : Option (Int32 × gM) := bx (fX5_setting x1 mm) (fun E_ => if E_ = "java/lang/IndexOutOfBoundsException" then some ((1 : Int32), mm) else (none)) (fun r => some ((0 : Int32), sl mm 34 0 r.toInt64))
abbrev rm_L_setting : Room := { frames := 8, cells := 1, slots := 6, locals := 123 }
noncomputable def fL_couldBe (x1 : Int32) (x2 : Int32) (mm : gM) : Option (Int32 × gM) := bx (fX5_couldBe x1 x2 mm) (fun E_ => if E_ = "java/lang/IndexOutOfBoundsException" then some ((1 : Int32), mm) else (if E_ = "java/lang/IllegalArgumentException" then some ((2 : Int32), mm) else (none))) (fun r => some ((0 : Int32), sl mm 34 0 r.toInt64))
abbrev rm_L_couldBe : Room := { frames := 8, cells := 2, slots := 12, locals := 125 }
noncomputable def fL_ifTimed (x1 : Int32) (x2 : Int32) (mm : gM) : Option (Int32 × gM) := bx2 (fX5_ifTimed x1 x2 mm) (fun E_ m1 => if E_ = "java/lang/IndexOutOfBoundsException" then some ((1 : Int32), m1) else (if E_ = "java/lang/IllegalArgumentException" then some ((2 : Int32), m1) else (none))) (fun r m1 => some ((0 : Int32), sl m1 34 0 r.toInt64))
abbrev rm_L_ifTimed : Room := { frames := 8, cells := 2, slots := 12, locals := 142 }
noncomputable def fL_ifBalanced (x1 : Int32) (x2 : Int32) (mm : gM) : Option (Int32 × gM) := bx2 (fX5_ifBalanced x1 x2 mm) (fun E_ m1 => if E_ = "java/lang/IndexOutOfBoundsException" then some ((1 : Int32), m1) else (if E_ = "java/lang/IllegalArgumentException" then some ((2 : Int32), m1) else (none))) (fun r m1 => some ((0 : Int32), sl m1 34 0 r.toInt64))
abbrev rm_L_ifBalanced : Room := { frames := 8, cells := 2, slots := 12, locals := 124 }
noncomputable def fL_safest (x1 : Int32) (mm : gM) : Option (Int32 × gM) := bx (fX5_safest x1 mm) (fun E_ => if E_ = "java/lang/IndexOutOfBoundsException" then some ((1 : Int32), mm) else (none)) (fun r => some ((0 : Int32), sl mm 34 0 r.toInt64))
abbrev rm_L_safest : Room := { frames := 8, cells := 1, slots := 6, locals := 123 }
