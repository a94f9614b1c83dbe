noncomputable def jX5_maskOf_18 : Option (Int32) := some (0 : Int32)
noncomputable def fX5_maskOf (x0 : Int32) : Option (Int32) := if x0 < 0 then (jX5_maskOf_18 ) else (if 18 ≤ x0 then (jX5_maskOf_18 ) else (chk (vp_in x0 18) (some (tS0 x0.toNatClampNeg))))
abbrev rm_X5_maskOf : Room := { frames := 0, cells := 0, slots := 0, locals := 0 }
noncomputable def fX5_bit (x0 : Int32) (x1 : Int32) : Option (Int32) := some ((x0 >>> (x1 &&& 31)) &&& 1)
abbrev rm_X5_bit : Room := { frames := 0, cells := 0, slots := 0, locals := 0 }
noncomputable def fX2_failing (t0 : Nat) (x1 : Int32) (mm : gM) : Option (Int32) := chk (vp_in x1 6) (some ((gi mm 2 t0 x1.toNatClampNeg) ||| (gi mm 0 t0 6)))
abbrev rm_X2_failing : Room := { frames := 0, cells := 0, slots := 0, locals := 0 }
noncomputable def jX2_works_28 (t0 : Nat) (mm : gM) (x1 : Int32) (s0 : Int32) (s1 : Int32) : Option (Int32) := bnd (fX2_failing t0 x1 mm) (fun r10 => some ((s0 ||| s1) &&& (r10 ^^^ (-1))))
noncomputable def fX2_works (t0 : Nat) (x1 : Int32) (mm : gM) : Option (Int32) := chk (vp_in x1 6) (bnd (fX5_maskOf (gi mm 1 t0 x1.toNatClampNeg)) (fun r3 => bnd (fX5_bit (gi mm 0 t0 5) x1) (fun r6 => if r6 = 1 then (jX2_works_28 t0 mm x1 r3 128) else (jX2_works_28 t0 mm x1 r3 0))))
abbrev rm_X2_works : Room := { frames := 1, cells := 0, slots := 0, locals := 21 }
noncomputable def fJ6_bitCount_0f7a4 (x0 : Int32) : Option (Int32) := wth (x0 - ((ush x0 1) &&& 1431655765)) (fun v1 => wth ((v1 &&& 858993459) + ((ush v1 2) &&& 858993459)) (fun v2 => wth ((v2 + (ush v2 4)) &&& 252645135) (fun v3 => wth ((v3 + (ush v3 8)) + (ush (v3 + (ush v3 8)) 16)) (fun v4 => some (v4 &&& 63)))))
abbrev rm_J6_bitCount_0f7a4 : Room := { frames := 0, cells := 0, slots := 0, locals := 0 }
noncomputable def fX0_needier (x1 : Int32) (x2 : Int32) (mm : gM) : Option (Int32) := chk (vp_in x1 6) (chk (vp_in x2 6) (chk (vp_in x2 6) (chk (vp_in x1 6) (if ((gi mm 14 0 x2.toNatClampNeg) * (gi mm 15 0 x1.toNatClampNeg)) ≤ ((gi mm 14 0 x1.toNatClampNeg) * (gi mm 15 0 x2.toNatClampNeg)) then (chk (bz 0) (some (0 : Int32))) else (chk (bz 1) (some (1 : Int32)))))))
abbrev rm_X0_needier : Room := { frames := 0, cells := 0, slots := 0, locals := 0 }
noncomputable def jX0_neediest_56 (k4 : Int32 → Int32 → Option (Int32)) (mm : gM) (x1 : Int32) (x2 : Int32) : Option (Int32) := k4 x1 (x2 + 1)
noncomputable def jX0_neediest_54 (k4 : Int32 → Int32 → Option (Int32)) (mm : gM) (x2 : Int32) : Option (Int32) := jX0_neediest_56 k4 mm x2 x2
noncomputable def jX0_neediest_35 (k4 : Int32 → Int32 → Option (Int32)) (mm : gM) (x1 : Int32) (x2 : Int32) (s0 : Int32) : Option (Int32) := if s0 = 0 then (jX0_neediest_56 k4 mm x1 x2) else (if x1 = (-1) then (jX0_neediest_54 k4 mm x2) else (bnd (fX0_needier x2 x1 mm) (fun r7 => if r7 = 0 then (jX0_neediest_56 k4 mm x1 x2) else (jX0_neediest_54 k4 mm x2))))
noncomputable def jX0_neediest_34 (k4 : Int32 → Int32 → Option (Int32)) (mm : gM) (x1 : Int32) (x2 : Int32) : Option (Int32) := jX0_neediest_35 k4 mm x1 x2 0
noncomputable def lX0_neediest_4 (mm : gM) : Nat → Int32 → Int32 → Option (Int32)
  | 0, _, _ => none
  | n + 1, x1, x2 => if 6 ≤ x2 then (some x1) else (chk (vp_in x2 6) (if (gi mm 15 0 x2.toNatClampNeg) ≤ 0 then (jX0_neediest_34 (lX0_neediest_4 mm n) mm x1 x2) else (chk (vp_in x2 6) (if 20 ≤ (gi mm 14 0 x2.toNatClampNeg) then (jX0_neediest_34 (lX0_neediest_4 mm n) mm x1 x2) else (jX0_neediest_35 (lX0_neediest_4 mm n) mm x1 x2 1)))))
theorem lX0_neediest_4_s (mm : gM) (n : Nat) (x1 : Int32) (x2 : Int32) : lX0_neediest_4 mm (n + 1) x1 x2 = if 6 ≤ x2 then (some x1) else (chk (vp_in x2 6) (if (gi mm 15 0 x2.toNatClampNeg) ≤ 0 then (jX0_neediest_34 (lX0_neediest_4 mm n) mm x1 x2) else (chk (vp_in x2 6) (if 20 ≤ (gi mm 14 0 x2.toNatClampNeg) then (jX0_neediest_34 (lX0_neediest_4 mm n) mm x1 x2) else (jX0_neediest_35 (lX0_neediest_4 mm n) mm x1 x2 1))))) := rfl
noncomputable def fX0_neediest (mm : gM) : Option (Int32) := lX0_neediest_4 mm FU (-1) 0
abbrev rm_X0_neediest : Room := { frames := 1, cells := 0, slots := 0, locals := 22 }
noncomputable def jX0_spread_110 (t0 : Nat) (x3 : Int32) (mm : gM) : Option (Int32 × gM) := some (x3, mm)
noncomputable def jX0_spread_87 (t0 : Nat) (x3 : Int32) (mm : gM) : Option (Int32 × gM) := jX0_spread_110 t0 x3 mm
noncomputable def lX0_spread_69 (t0 : Nat) : Nat → Int32 → Int32 → Int32 → gM → Option (Int32 × gM)
  | 0, _, _, _, _ => none
  | n + 1, x2, x3, x4, mm => if x2 ≤ x4 then (jX0_spread_110 t0 x3 mm) else (bnd (fX0_neediest mm) (fun r17 => if r17 = (-1) then (jX0_spread_87 t0 x3 mm) else (chk (vp_in r17 6) (chk (vp_in r17 6) (wth (si mm 14 0 r17.toNatClampNeg ((gi mm 14 0 r17.toNatClampNeg) + 1)) (fun m21 => (lX0_spread_69 t0 n) x2 (x3 + 1) (x4 + 1) m21))))))
theorem lX0_spread_69_s (t0 : Nat) (n : Nat) (x2 : Int32) (x3 : Int32) (x4 : Int32) (mm : gM) : lX0_spread_69 t0 (n + 1) x2 x3 x4 mm = if x2 ≤ x4 then (jX0_spread_110 t0 x3 mm) else (bnd (fX0_neediest mm) (fun r17 => if r17 = (-1) then (jX0_spread_87 t0 x3 mm) else (chk (vp_in r17 6) (chk (vp_in r17 6) (wth (si mm 14 0 r17.toNatClampNeg ((gi mm 14 0 r17.toNatClampNeg) + 1)) (fun m21 => (lX0_spread_69 t0 n) x2 (x3 + 1) (x4 + 1) m21)))))) := rfl
noncomputable def jX0_spread_66 (t0 : Nat) (x2 : Int32) (x3 : Int32) (mm : gM) : Option (Int32 × gM) := lX0_spread_69 t0 FU x2 x3 x3 mm
noncomputable def jX0_spread_49 (k5 : Int32 → Int32 → Int32 → gM → Option (Int32 × gM)) (t0 : Nat) (x2 : Int32) (x3 : Int32) (x4 : Int32) (s1 : Int32) (s2 : Int32) (mm : gM) : Option (Int32 × gM) := chk (vp_in s1 6) (wth (si mm 14 0 s1.toNatClampNeg s2) (fun m13 => chk (vp_in x4 6) (wth (x3 + (gi m13 14 0 x4.toNatClampNeg)) (fun v15 => k5 x2 v15 (x4 + 1) m13))))
noncomputable def lX0_spread_5 (t0 : Nat) : Nat → Int32 → Int32 → Int32 → gM → Option (Int32 × gM)
  | 0, _, _, _, _ => none
  | n + 1, x2, x3, x4, mm => if 6 ≤ x4 then (jX0_spread_66 t0 x2 x3 mm) else (bnd (fX2_works t0 x4 mm) (fun r2 => bnd (fJ6_bitCount_0f7a4 r2) (fun r5 => chk (vp_in x4 6) (wth (si mm 15 0 x4.toNatClampNeg r5) (fun m8 => chk (vp_in x4 6) (if (gi m8 15 0 x4.toNatClampNeg) ≤ 0 then (jX0_spread_49 (lX0_spread_5 t0 n) t0 x2 x3 x4 x4 0 m8) else (jX0_spread_49 (lX0_spread_5 t0 n) t0 x2 x3 x4 x4 1 m8)))))))
theorem lX0_spread_5_s (t0 : Nat) (n : Nat) (x2 : Int32) (x3 : Int32) (x4 : Int32) (mm : gM) : lX0_spread_5 t0 (n + 1) x2 x3 x4 mm = if 6 ≤ x4 then (jX0_spread_66 t0 x2 x3 mm) else (bnd (fX2_works t0 x4 mm) (fun r2 => bnd (fJ6_bitCount_0f7a4 r2) (fun r5 => chk (vp_in x4 6) (wth (si mm 15 0 x4.toNatClampNeg r5) (fun m8 => chk (vp_in x4 6) (if (gi m8 15 0 x4.toNatClampNeg) ≤ 0 then (jX0_spread_49 (lX0_spread_5 t0 n) t0 x2 x3 x4 x4 0 m8) else (jX0_spread_49 (lX0_spread_5 t0 n) t0 x2 x3 x4 x4 1 m8))))))) := rfl
noncomputable def fX0_spread (t0 : Nat) (x2 : Int32) (mm : gM) : Option (Int32 × gM) := lX0_spread_5 t0 FU x2 0 0 mm
abbrev rm_X0_spread : Room := { frames := 2, cells := 0, slots := 0, locals := 45 }
noncomputable def lX1_forget_2 (t0 : Nat) : Nat → Int32 → gM → Option (gM)
  | 0, _, _ => none
  | n + 1, x1, mm => if 6 ≤ x1 then (some mm) else (chk (vp_in x1 6) (wth (si mm 10 t0 x1.toNatClampNeg (vp_nar .boolean 0)) (fun m2 => (lX1_forget_2 t0 n) (x1 + 1) m2)))
theorem lX1_forget_2_s (t0 : Nat) (n : Nat) (x1 : Int32) (mm : gM) : lX1_forget_2 t0 (n + 1) x1 mm = if 6 ≤ x1 then (some mm) else (chk (vp_in x1 6) (wth (si mm 10 t0 x1.toNatClampNeg (vp_nar .boolean 0)) (fun m2 => (lX1_forget_2 t0 n) (x1 + 1) m2))) := rfl
noncomputable def fX1_forget (t0 : Nat) (mm : gM) : Option (gM) := lX1_forget_2 t0 FU 0 mm
abbrev rm_X1_forget : Room := { frames := 0, cells := 0, slots := 0, locals := 0 }
noncomputable def fX2_ticksOf (t0 : Nat) (x1 : Int32) (mm : gM) : Option (Int32) := chk (vp_in x1 6) (if (gi mm 3 t0 x1.toNatClampNeg) ≤ 0 then (some (0 : Int32)) else (chk (vp_in 0 4) (chk (vp_in x1 6) (some ((gi mm 5 t0 (0 : Int32).toNatClampNeg) + (gi mm 3 t0 x1.toNatClampNeg))))))
abbrev rm_X2_ticksOf : Room := { frames := 0, cells := 0, slots := 0, locals := 0 }
noncomputable def lX2_roundTicks_4 (t0 : Nat) (mm : gM) : Nat → Int32 → Int32 → Option (Int32)
  | 0, _, _ => none
  | n + 1, x1, x2 => if 6 ≤ x2 then (some x1) else (bnd (fX2_ticksOf t0 x2 mm) (fun r2 => (lX2_roundTicks_4 t0 mm n) (x1 + r2) (x2 + 1)))
theorem lX2_roundTicks_4_s (t0 : Nat) (mm : gM) (n : Nat) (x1 : Int32) (x2 : Int32) : lX2_roundTicks_4 t0 mm (n + 1) x1 x2 = if 6 ≤ x2 then (some x1) else (bnd (fX2_ticksOf t0 x2 mm) (fun r2 => (lX2_roundTicks_4 t0 mm n) (x1 + r2) (x2 + 1))) := rfl
noncomputable def fX2_roundTicks (t0 : Nat) (mm : gM) : Option (Int32) := lX2_roundTicks_4 t0 mm FU 0 0
abbrev rm_X2_roundTicks : Room := { frames := 1, cells := 0, slots := 0, locals := 21 }
noncomputable def fX2_lightFor (t0 : Nat) (x1 : Int32) (mm : gM) : Option (Int32) := bnd (fJ6_bitCount_0f7a4 x1) (fun r2 => if r2 ≤ 0 then (some (0 : Int32)) else (chk (vp_in 1 4) (chk (¬ r2 = 0) (some ((gi mm 5 t0 (1 : Int32).toNatClampNeg) / r2)))))
abbrev rm_X2_lightFor : Room := { frames := 1, cells := 0, slots := 0, locals := 20 }
noncomputable def jX2_litAheadOf_25 (k2 : Int32 → Int32 → Option (Int32)) (t0 : Nat) (mm : gM) (x1 : Int32) (x2 : Int32) (s0 : Int32) : Option (Int32) := chk (vp_in s0 6) (if (gi mm 3 t0 s0.toNatClampNeg) ≤ 0 then (k2 x1 (x2 + 1)) else (some s0))
noncomputable def lX2_litAheadOf_2 (t0 : Nat) (mm : gM) : Nat → Int32 → Int32 → Option (Int32)
  | 0, _, _ => none
  | n + 1, x1, x2 => if 6 ≤ x2 then (some ((-1) : Int32)) else (if x1 < x2 then (jX2_litAheadOf_25 (lX2_litAheadOf_2 t0 mm n) t0 mm x1 x2 ((x1 - x2) + 6)) else (jX2_litAheadOf_25 (lX2_litAheadOf_2 t0 mm n) t0 mm x1 x2 (x1 - x2)))
theorem lX2_litAheadOf_2_s (t0 : Nat) (mm : gM) (n : Nat) (x1 : Int32) (x2 : Int32) : lX2_litAheadOf_2 t0 mm (n + 1) x1 x2 = if 6 ≤ x2 then (some ((-1) : Int32)) else (if x1 < x2 then (jX2_litAheadOf_25 (lX2_litAheadOf_2 t0 mm n) t0 mm x1 x2 ((x1 - x2) + 6)) else (jX2_litAheadOf_25 (lX2_litAheadOf_2 t0 mm n) t0 mm x1 x2 (x1 - x2))) := rfl
noncomputable def fX2_litAheadOf (t0 : Nat) (x1 : Int32) (mm : gM) : Option (Int32) := lX2_litAheadOf_2 t0 mm FU x1 1
abbrev rm_X2_litAheadOf : Room := { frames := 0, cells := 0, slots := 0, locals := 0 }
noncomputable def jX4_take_40 (t0 : Nat) (t1 : Nat) (x2 : Int32) (mm : gM) : Option (gM) := chk (vp_in x2 6) (wth (si mm 11 t0 1 ((gi mm 11 t0 2) - (gi mm 3 t1 x2.toNatClampNeg))) (fun m12 => bnd (fX2_works t1 x2 m12) (fun r14 => wth (si m12 11 t0 3 r14) (fun m16 => bnd (fX2_lightFor t1 (gi m16 11 t0 3) m16) (fun r18 => wth (si m16 11 t0 4 r18) (fun m20 => chk (vp_in 2 4) (wth (si m20 11 t0 7 (gi m20 5 t1 (2 : Int32).toNatClampNeg)) (fun m22 => wth (si m22 11 t0 5 0) (fun m23 => wth (si m23 11 t0 6 0) (fun m24 => bnd (fX2_litAheadOf t1 x2 m24) (fun r26 => chk (vp_in 0 4) (if (gi m24 5 t1 (0 : Int32).toNatClampNeg) = 0 then (if r26 = (-1) then (some m24) else (bnd (fX2_works t1 r26 m24) (fun r30 => chk (vp_in x2 6) (wth (si m24 11 t0 5 (r30 &&& ((gi m24 2 t1 x2.toNatClampNeg) ^^^ (-1)))) (fun m33 => bnd (fX2_lightFor t1 r30 m33) (fun r35 => chk (¬ (4 : Int32) = 0) (wth (si m33 11 t0 6 (r35 / 4)) (fun m38 => some m38)))))))) else (some m24)))))))))))))
noncomputable def lX4_take_15 (t0 : Nat) (t1 : Nat) : Nat → Int32 → Int32 → gM → Option (gM)
  | 0, _, _, _ => none
  | n + 1, x2, x3, mm => if x2 < x3 then (jX4_take_40 t0 t1 x2 mm) else (bnd (fX2_ticksOf t1 x3 mm) (fun r7 => wth (si mm 11 t0 2 ((gi mm 11 t0 2) + r7)) (fun m9 => (lX4_take_15 t0 t1 n) x2 (x3 + 1) m9)))
theorem lX4_take_15_s (t0 : Nat) (t1 : Nat) (n : Nat) (x2 : Int32) (x3 : Int32) (mm : gM) : lX4_take_15 t0 t1 (n + 1) x2 x3 mm = if x2 < x3 then (jX4_take_40 t0 t1 x2 mm) else (bnd (fX2_ticksOf t1 x3 mm) (fun r7 => wth (si mm 11 t0 2 ((gi mm 11 t0 2) + r7)) (fun m9 => (lX4_take_15 t0 t1 n) x2 (x3 + 1) m9))) := rfl
noncomputable def fX4_take (t0 : Nat) (t1 : Nat) (x2 : Int32) (mm : gM) : Option (gM) := bnd (fX2_roundTicks t1 mm) (fun r2 => wth (si mm 11 t0 0 r2) (fun m4 => wth (si m4 11 t0 2 0) (fun m5 => lX4_take_15 t0 t1 FU x2 0 m5)))
abbrev rm_X4_take : Room := { frames := 2, cells := 0, slots := 0, locals := 43 }
noncomputable def fX4_ticksOfRound (t0 : Nat) (mm : gM) : Option (Int32) := some (gi mm 11 t0 0)
abbrev rm_X4_ticksOfRound : Room := { frames := 0, cells := 0, slots := 0, locals := 0 }
noncomputable def jX4_glowBehind_112 (t0 : Nat) (mm : gM) (x5 : Int32) : Option (Int32) := some x5
noncomputable def jX4_glowBehind_70 (t0 : Nat) (mm : gM) (x1 : Int32) (x3 : Int32) (x5 : Int32) : Option (Int32) := if x1 = (gi mm 11 t0 1) then (if (gi mm 11 t0 2) ≤ (gi mm 11 t0 1) then (jX4_glowBehind_112 t0 mm x5) else (bnd (fX5_bit (gi mm 11 t0 5) x3) (fun r11 => if r11 = 1 then (jX4_glowBehind_112 t0 mm (mx x5 (gi mm 11 t0 6))) else (jX4_glowBehind_112 t0 mm x5)))) else (jX4_glowBehind_112 t0 mm x5)
noncomputable def jX4_glowBehind_21 (t0 : Nat) (mm : gM) (x1 : Int32) (x3 : Int32) (s0 : Int32) : Option (Int32) := if x1 < (gi mm 11 t0 1) then (jX4_glowBehind_70 t0 mm x1 x3 (mx 0 s0)) else (if (gi mm 11 t0 2) ≤ x1 then (jX4_glowBehind_70 t0 mm x1 x3 (mx 0 s0)) else (bnd (fX5_bit (gi mm 11 t0 3) x3) (fun r4 => if r4 = 1 then (wth (mx (mx 0 s0) (gi mm 11 t0 4)) (fun v6 => jX4_glowBehind_70 t0 mm x1 x3 v6)) else (jX4_glowBehind_70 t0 mm x1 x3 (mx 0 s0)))))
noncomputable def fX4_glowBehind (t0 : Nat) (x1 : Int32) (x2 : Int32) (x3 : Int32) (mm : gM) : Option (Int32) := if (gi mm 11 t0 7) ≤ 0 then (jX4_glowBehind_21 t0 mm x1 x3 0) else (chk (¬ (gi mm 11 t0 7) = 0) (jX4_glowBehind_21 t0 mm x1 x3 ((x2 - (x2 / (gi mm 11 t0 7))) - 1)))
abbrev rm_X4_glowBehind : Room := { frames := 1, cells := 0, slots := 0, locals := 21 }
noncomputable def jX1_lookAt_147 (t0 : Nat) (x1 : Int32) (x6 : Int32) (x7 : Int32) (s1 : Int32) (s2 : Int32) (mm : gM) : Option (gM) := chk (vp_in s1 48) (wth (si mm 7 t0 s1.toNatClampNeg s2) (fun m11 => chk (vp_in x1 48) (wth (si m11 8 t0 x1.toNatClampNeg x6) (fun m13 => chk (vp_in x1 48) (wth (si m13 9 t0 x1.toNatClampNeg x7) (fun m15 => some m15))))))
noncomputable def jX1_lookAt_130 (t0 : Nat) (x1 : Int32) (x3 : Int32) (x5 : Int32) (x6 : Int32) (x7 : Int32) (mm : gM) : Option (gM) := if x3 ≤ 0 then (jX1_lookAt_147 t0 x1 x6 x7 x1 0 mm) else (chk (¬ x3 = 0) (jX1_lookAt_147 t0 x1 x6 x7 x1 (x5 / x3) mm))
noncomputable def jX1_lookAt_121 (t0 : Nat) (x1 : Int32) (x3 : Int32) (x5 : Int32) (x6 : Int32) (x7 : Int32) (mm : gM) : Option (gM) := jX1_lookAt_130 t0 x1 x3 x5 x6 x7 mm
noncomputable def jX1_lookAt_114 (k31 : Int32 → Int32 → Int32 → Int32 → Int32 → Int32 → Int32 → Int32 → gM → Option (gM)) (t0 : Nat) (x1 : Int32) (x2 : Int32) (x3 : Int32) (x4 : Int32) (x5 : Int32) (x6 : Int32) (x7 : Int32) (x8 : Int32) (x9 : Int32) (mm : gM) : Option (gM) := if x4 = x9 then (jX1_lookAt_121 t0 x1 x3 x5 x6 x7 mm) else (k31 x1 x2 x3 x4 x5 x6 x7 (x8 + 1) mm)
noncomputable def lX1_lookAt_63 (k31 : Int32 → Int32 → Int32 → Int32 → Int32 → Int32 → Int32 → Int32 → gM → Option (gM)) (t0 : Nat) : Nat → Int32 → Int32 → Int32 → Int32 → Int32 → Int32 → Int32 → Int32 → Int32 → Int32 → gM → Option (gM)
  | 0, _, _, _, _, _, _, _, _, _, _, _ => none
  | n + 1, x1, x2, x3, x4, x5, x6, x7, x8, x9, x10, mm => if x3 ≤ x10 then (jX1_lookAt_114 k31 t0 x1 x2 x3 x4 x5 x6 x7 x8 x9 mm) else (bnd (fX4_glowBehind t0 x10 x4 x2 mm) (fun r17 => (lX1_lookAt_63 k31 t0 n) x1 x2 x3 r17 (x5 + r17) (mx x6 r17) (mn x7 r17) x8 x9 (x10 + 1) mm))
theorem lX1_lookAt_63_s (k31 : Int32 → Int32 → Int32 → Int32 → Int32 → Int32 → Int32 → Int32 → gM → Option (gM)) (t0 : Nat) (n : Nat) (x1 : Int32) (x2 : Int32) (x3 : Int32) (x4 : Int32) (x5 : Int32) (x6 : Int32) (x7 : Int32) (x8 : Int32) (x9 : Int32) (x10 : Int32) (mm : gM) : lX1_lookAt_63 k31 t0 (n + 1) x1 x2 x3 x4 x5 x6 x7 x8 x9 x10 mm = if x3 ≤ x10 then (jX1_lookAt_114 k31 t0 x1 x2 x3 x4 x5 x6 x7 x8 x9 mm) else (bnd (fX4_glowBehind t0 x10 x4 x2 mm) (fun r17 => (lX1_lookAt_63 k31 t0 n) x1 x2 x3 r17 (x5 + r17) (mx x6 r17) (mn x7 r17) x8 x9 (x10 + 1) mm)) := rfl
noncomputable def jX1_lookAt_58 (k31 : Int32 → Int32 → Int32 → Int32 → Int32 → Int32 → Int32 → Int32 → gM → Option (gM)) (t0 : Nat) (x1 : Int32) (x2 : Int32) (x3 : Int32) (x4 : Int32) (x5 : Int32) (x6 : Int32) (x8 : Int32) (x9 : Int32) (s0 : Int32) (mm : gM) : Option (gM) := lX1_lookAt_63 k31 t0 FU x1 x2 x3 x4 x5 x6 s0 x8 x9 0 mm
noncomputable def lX1_lookAt_31 (t0 : Nat) : Nat → Int32 → Int32 → Int32 → Int32 → Int32 → Int32 → Int32 → Int32 → gM → Option (gM)
  | 0, _, _, _, _, _, _, _, _, _ => none
  | n + 1, x1, x2, x3, x4, x5, x6, x7, x8, mm => if 8 ≤ x8 then (jX1_lookAt_130 t0 x1 x3 x5 x6 x7 mm) else (if x3 ≤ 0 then (jX1_lookAt_58 (lX1_lookAt_31 t0 n) t0 x1 x2 x3 x4 0 0 x8 x4 0 mm) else (jX1_lookAt_58 (lX1_lookAt_31 t0 n) t0 x1 x2 x3 x4 0 0 x8 x4 1073741824 mm))
theorem lX1_lookAt_31_s (t0 : Nat) (n : Nat) (x1 : Int32) (x2 : Int32) (x3 : Int32) (x4 : Int32) (x5 : Int32) (x6 : Int32) (x7 : Int32) (x8 : Int32) (mm : gM) : lX1_lookAt_31 t0 (n + 1) x1 x2 x3 x4 x5 x6 x7 x8 mm = if 8 ≤ x8 then (jX1_lookAt_130 t0 x1 x3 x5 x6 x7 mm) else (if x3 ≤ 0 then (jX1_lookAt_58 (lX1_lookAt_31 t0 n) t0 x1 x2 x3 x4 0 0 x8 x4 0 mm) else (jX1_lookAt_58 (lX1_lookAt_31 t0 n) t0 x1 x2 x3 x4 0 0 x8 x4 1073741824 mm)) := rfl
noncomputable def fX1_lookAt (t0 : Nat) (x1 : Int32) (x2 : Int32) (mm : gM) : Option (gM) := bnd (fX4_ticksOfRound t0 mm) (fun r2 => chk (vp_in x1 48) (wth (gi mm 4 t0 x1.toNatClampNeg) (fun v5 => lX1_lookAt_31 t0 FU x1 x2 r2 v5 0 0 0 0 mm)))
abbrev rm_X1_lookAt : Room := { frames := 2, cells := 0, slots := 0, locals := 46 }
noncomputable def jX1_look_47 (t0 : Nat) (x1 : Int32) (mm : gM) : Option (gM) := chk (vp_in x1 6) (wth (si mm 10 t0 x1.toNatClampNeg (vp_nar .boolean 1)) (fun m11 => some m11))
noncomputable def lX1_look_24 (t0 : Nat) : Nat → Int32 → Int32 → gM → Option (gM)
  | 0, _, _, _ => none
  | n + 1, x1, x2, mm => if 8 ≤ x2 then (jX1_look_47 t0 x1 mm) else (bnd (fX1_lookAt t0 ((x1 * 8) + x2) x2 mm) (fun m8 => (lX1_look_24 t0 n) x1 (x2 + 1) m8))
theorem lX1_look_24_s (t0 : Nat) (n : Nat) (x1 : Int32) (x2 : Int32) (mm : gM) : lX1_look_24 t0 (n + 1) x1 x2 mm = if 8 ≤ x2 then (jX1_look_47 t0 x1 mm) else (bnd (fX1_lookAt t0 ((x1 * 8) + x2) x2 mm) (fun m8 => (lX1_look_24 t0 n) x1 (x2 + 1) m8)) := rfl
noncomputable def fX1_look (t0 : Nat) (x1 : Int32) (mm : gM) : Option (gM) := chk (vp_in x1 6) (if (gi mm 10 t0 x1.toNatClampNeg) = 0 then (bnd (fX4_take t0 t0 x1 mm) (fun m4 => lX1_look_24 t0 FU x1 0 m4)) else (some mm))
abbrev rm_X1_look : Room := { frames := 3, cells := 0, slots := 0, locals := 76 }
noncomputable def jX1_seen_39 (k4 : Int32 → Int32 → Int32 → Option (Int32)) (t0 : Nat) (mm : gM) (x1 : Int32) (x2 : Int32) (x3 : Int32) : Option (Int32) := k4 x1 x2 (x3 + 1)
noncomputable def lX1_seen_4 (t0 : Nat) (mm : gM) : Nat → Int32 → Int32 → Int32 → Option (Int32)
  | 0, _, _, _ => none
  | n + 1, x1, x2, x3 => if 8 ≤ x3 then (some x2) else (chk (vp_in ((x1 * 8) + x3) 48) (chk (vp_in 3 4) (if (gi mm 7 t0 ((x1 * 8) + x3).toNatClampNeg) < (gi mm 5 t0 (3 : Int32).toNatClampNeg) then (jX1_seen_39 (lX1_seen_4 t0 mm n) t0 mm x1 x2 x3) else (wth (x2 ||| (1 <<< (x3 &&& 31))) (fun v3 => jX1_seen_39 (lX1_seen_4 t0 mm n) t0 mm x1 v3 x3)))))
theorem lX1_seen_4_s (t0 : Nat) (mm : gM) (n : Nat) (x1 : Int32) (x2 : Int32) (x3 : Int32) : lX1_seen_4 t0 mm (n + 1) x1 x2 x3 = if 8 ≤ x3 then (some x2) else (chk (vp_in ((x1 * 8) + x3) 48) (chk (vp_in 3 4) (if (gi mm 7 t0 ((x1 * 8) + x3).toNatClampNeg) < (gi mm 5 t0 (3 : Int32).toNatClampNeg) then (jX1_seen_39 (lX1_seen_4 t0 mm n) t0 mm x1 x2 x3) else (wth (x2 ||| (1 <<< (x3 &&& 31))) (fun v3 => jX1_seen_39 (lX1_seen_4 t0 mm n) t0 mm x1 v3 x3))))) := rfl
noncomputable def fX1_seen (t0 : Nat) (x1 : Int32) (mm : gM) : Option (Int32) := lX1_seen_4 t0 mm FU x1 0 0
abbrev rm_X1_seen : Room := { frames := 0, cells := 0, slots := 0, locals := 0 }
noncomputable def lX1_readAs_11 (t0 : Nat) (mm : gM) : Nat → Int32 → Int32 → Option (Int32)
  | 0, _, _ => none
  | n + 1, x2, x3 => if 18 ≤ x3 then (some ((-1) : Int32)) else (bnd (fX5_maskOf x3) (fun r5 => if r5 = x2 then (some x3) else ((lX1_readAs_11 t0 mm n) x2 (x3 + 1))))
theorem lX1_readAs_11_s (t0 : Nat) (mm : gM) (n : Nat) (x2 : Int32) (x3 : Int32) : lX1_readAs_11 t0 mm (n + 1) x2 x3 = if 18 ≤ x3 then (some ((-1) : Int32)) else (bnd (fX5_maskOf x3) (fun r5 => if r5 = x2 then (some x3) else ((lX1_readAs_11 t0 mm n) x2 (x3 + 1)))) := rfl
noncomputable def fX1_readAs (t0 : Nat) (x1 : Int32) (mm : gM) : Option (Int32) := bnd (fX1_seen t0 x1 mm) (fun r2 => lX1_readAs_11 t0 mm FU (r2 &&& 127) 0)
abbrev rm_X1_readAs : Room := { frames := 1, cells := 0, slots := 0, locals := 23 }
noncomputable def jX1_mean_60 (t0 : Nat) (mm : gM) (x3 : Int32) (x4 : Int32) : Option (Int32) := if x3 ≤ 0 then (some (0 : Int32)) else (chk (¬ x3 = 0) (some (x4 / x3)))
noncomputable def jX1_mean_54 (k20 : Int32 → Int32 → Int32 → Int32 → Int32 → Option (Int32)) (t0 : Nat) (mm : gM) (x1 : Int32) (x2 : Int32) (x3 : Int32) (x4 : Int32) (x5 : Int32) : Option (Int32) := k20 x1 x2 x3 x4 (x5 + 1)
noncomputable def lX1_mean_20 (t0 : Nat) (mm : gM) : Nat → Int32 → Int32 → Int32 → Int32 → Int32 → Option (Int32)
  | 0, _, _, _, _, _ => none
  | n + 1, x1, x2, x3, x4, x5 => if 8 ≤ x5 then (jX1_mean_60 t0 mm x3 x4) else (bnd (fX5_bit x2 x5) (fun r8 => if r8 = 1 then (chk (vp_in ((x1 * 8) + x5) 48) (wth (x4 + (gi mm 7 t0 ((x1 * 8) + x5).toNatClampNeg)) (fun v11 => jX1_mean_54 (lX1_mean_20 t0 mm n) t0 mm x1 x2 x3 v11 x5))) else (jX1_mean_54 (lX1_mean_20 t0 mm n) t0 mm x1 x2 x3 x4 x5)))
theorem lX1_mean_20_s (t0 : Nat) (mm : gM) (n : Nat) (x1 : Int32) (x2 : Int32) (x3 : Int32) (x4 : Int32) (x5 : Int32) : lX1_mean_20 t0 mm (n + 1) x1 x2 x3 x4 x5 = if 8 ≤ x5 then (jX1_mean_60 t0 mm x3 x4) else (bnd (fX5_bit x2 x5) (fun r8 => if r8 = 1 then (chk (vp_in ((x1 * 8) + x5) 48) (wth (x4 + (gi mm 7 t0 ((x1 * 8) + x5).toNatClampNeg)) (fun v11 => jX1_mean_54 (lX1_mean_20 t0 mm n) t0 mm x1 x2 x3 v11 x5))) else (jX1_mean_54 (lX1_mean_20 t0 mm n) t0 mm x1 x2 x3 x4 x5))) := rfl
noncomputable def fX1_mean (t0 : Nat) (x1 : Int32) (mm : gM) : Option (Int32) := bnd (fX2_works t0 x1 mm) (fun r2 => bnd (fJ6_bitCount_0f7a4 r2) (fun r5 => lX1_mean_20 t0 mm FU x1 r2 r5 0 0))
abbrev rm_X1_mean : Room := { frames := 2, cells := 0, slots := 0, locals := 43 }
noncomputable def fX2_copyFrom (t0 : Nat) (t1 : Nat) (mm : gM) : Option (gM) := wth (cy mm 1 t0 1 t1 0 0 6) (fun m1 => wth (cy m1 2 t0 2 t1 0 0 6) (fun m2 => wth (cy m2 3 t0 3 t1 0 0 6) (fun m3 => wth (cy m3 4 t0 4 t1 0 0 48) (fun m4 => wth (cy m4 5 t0 5 t1 0 0 4) (fun m5 => wth (si m5 0 t0 5 (gi m5 0 t1 5)) (fun m6 => wth (si m6 0 t0 6 (gi m6 0 t1 6)) (fun m7 => wth (si m7 0 t0 7 (gi m7 0 t1 7)) (fun m8 => wth (si m8 0 t0 8 (gi m8 0 t1 8)) (fun m9 => wth (si m9 0 t0 9 (gi m9 0 t1 9)) (fun m10 => some m10))))))))))
abbrev rm_X2_copyFrom : Room := { frames := 1, cells := 0, slots := 0, locals := 60 }
noncomputable def lX2_litTicks_4 (t0 : Nat) (mm : gM) : Nat → Int32 → Int32 → Option (Int32)
  | 0, _, _ => none
  | n + 1, x1, x2 => if 6 ≤ x2 then (some x1) else (chk (vp_in x2 6) (wth (x1 + (gi mm 3 t0 x2.toNatClampNeg)) (fun v2 => (lX2_litTicks_4 t0 mm n) v2 (x2 + 1))))
theorem lX2_litTicks_4_s (t0 : Nat) (mm : gM) (n : Nat) (x1 : Int32) (x2 : Int32) : lX2_litTicks_4 t0 mm (n + 1) x1 x2 = if 6 ≤ x2 then (some x1) else (chk (vp_in x2 6) (wth (x1 + (gi mm 3 t0 x2.toNatClampNeg)) (fun v2 => (lX2_litTicks_4 t0 mm n) v2 (x2 + 1)))) := rfl
noncomputable def fX2_litTicks (t0 : Nat) (mm : gM) : Option (Int32) := lX2_litTicks_4 t0 mm FU 0 0
abbrev rm_X2_litTicks : Room := { frames := 0, cells := 0, slots := 0, locals := 0 }
noncomputable def jX2_litIn_23 (t0 : Nat) (mm : gM) (x1 : Int32) (x2 : Int32) (x3 : Int32) : Option (Int32) := chk (vp_in x3 6) (if x1 < (x2 - (gi mm 3 t0 x3.toNatClampNeg)) then (some ((-1) : Int32)) else (some x3))
noncomputable def lX2_litIn_4 (t0 : Nat) (mm : gM) : Nat → Int32 → Int32 → Int32 → Option (Int32)
  | 0, _, _, _ => none
  | n + 1, x1, x2, x3 => if 6 ≤ x3 then (some ((-1) : Int32)) else (bnd (fX2_ticksOf t0 x3 mm) (fun r2 => if (x2 + r2) ≤ x1 then ((lX2_litIn_4 t0 mm n) x1 (x2 + r2) (x3 + 1)) else (jX2_litIn_23 t0 mm x1 (x2 + r2) x3)))
theorem lX2_litIn_4_s (t0 : Nat) (mm : gM) (n : Nat) (x1 : Int32) (x2 : Int32) (x3 : Int32) : lX2_litIn_4 t0 mm (n + 1) x1 x2 x3 = if 6 ≤ x3 then (some ((-1) : Int32)) else (bnd (fX2_ticksOf t0 x3 mm) (fun r2 => if (x2 + r2) ≤ x1 then ((lX2_litIn_4 t0 mm n) x1 (x2 + r2) (x3 + 1)) else (jX2_litIn_23 t0 mm x1 (x2 + r2) x3))) := rfl
noncomputable def fX2_litIn (t0 : Nat) (x1 : Int32) (mm : gM) : Option (Int32) := lX2_litIn_4 t0 mm FU x1 0 0
abbrev rm_X2_litIn : Room := { frames := 1, cells := 0, slots := 0, locals := 21 }
noncomputable def fX3_put (x1 : Int32) (mm : gM) : Option (gM) := if (gi mm 16 0 1) < 0 then (some mm) else (if 12 ≤ (gi mm 16 0 1) then (some mm) else (chk (vp_in (gi mm 16 0 1) 12) (wth (si mm 17 0 (gi mm 16 0 1).toNatClampNeg (vp_nar .char x1)) (fun m2 => wth (si m2 16 0 1 ((gi m2 16 0 1) + 1)) (fun m3 => some m3)))))
abbrev rm_X3_put : Room := { frames := 0, cells := 0, slots := 0, locals := 0 }
noncomputable def jJ0_isLatin1_aae02_17 (q0 : Nat) : Option (Int32) := chk (bz 0) (some (0 : Int32))
noncomputable def fJ0_isLatin1_aae02 (q0 : Nat) : Option (Int32) := if (1 : Int32) = 0 then (jJ0_isLatin1_aae02_17 q0) else (if (0 : Int32) = 0 then (chk (bz 1) (some (1 : Int32))) else (jJ0_isLatin1_aae02_17 q0))
abbrev rm_J0_isLatin1_aae02 : Room := { frames := 0, cells := 0, slots := 0, locals := 0 }
noncomputable def fJ0_coder_7d493 (q0 : Nat) : Option (Int32) := if (1 : Int32) = 0 then (chk ((1 : Int32).toInt8.toInt32 = 1) (some (1 : Int32))) else (chk ((0 : Int32).toInt8.toInt32 = 0) (some (0 : Int32)))
abbrev rm_J0_coder_7d493 : Room := { frames := 0, cells := 0, slots := 0, locals := 0 }
noncomputable def fJ0_length_8abf5 (q0 : Nat) : Option (Int32) := bnd (fJ0_coder_7d493 q0) (fun r2 => some (18 >>> (r2 &&& 31)))
abbrev rm_J0_length_8abf5 : Room := { frames := 1, cells := 0, slots := 0, locals := 20 }
noncomputable def jJ1_canEncode_9a6ad_15 : Option (Int32) := chk (bz 0) (some (0 : Int32))
noncomputable def fJ1_canEncode_9a6ad (x0 : Int32) : Option (Int32) := if x0 < 0 then (jJ1_canEncode_9a6ad_15 ) else (if 255 < x0 then (jJ1_canEncode_9a6ad_15 ) else (chk (bz 1) (some (1 : Int32))))
abbrev rm_J1_canEncode_9a6ad : Room := { frames := 0, cells := 0, slots := 0, locals := 0 }
noncomputable def lJ1_indexOfChar_4cfef_7 (q0 : Nat) : Nat → Int32 → Int32 → Int32 → Option (Int32)
  | 0, _, _, _ => none
  | n + 1, x3, x4, x5 => if x3 ≤ x5 then (some ((-1) : Int32)) else (chk (vp_in x5 18) (if (tCodes.getD x5.toNatClampNeg 0) = x4 then (some x5) else ((lJ1_indexOfChar_4cfef_7 q0 n) x3 x4 (x5 + 1))))
theorem lJ1_indexOfChar_4cfef_7_s (q0 : Nat) (n : Nat) (x3 : Int32) (x4 : Int32) (x5 : Int32) : lJ1_indexOfChar_4cfef_7 q0 (n + 1) x3 x4 x5 = if x3 ≤ x5 then (some ((-1) : Int32)) else (chk (vp_in x5 18) (if (tCodes.getD x5.toNatClampNeg 0) = x4 then (some x5) else ((lJ1_indexOfChar_4cfef_7 q0 n) x3 x4 (x5 + 1)))) := rfl
noncomputable def fJ1_indexOfChar_4cfef (q0 : Nat) (x1 : Int32) (x2 : Int32) (x3 : Int32) : Option (Int32) := lJ1_indexOfChar_4cfef_7 q0 FU x3 x1.toInt8.toInt32 x2
abbrev rm_J1_indexOfChar_4cfef : Room := { frames := 0, cells := 0, slots := 0, locals := 0 }
noncomputable def fJ1_indexOf_4cfef (q0 : Nat) (x1 : Int32) (x2 : Int32) (x3 : Int32) : Option (Int32) := bnd (fJ1_canEncode_9a6ad x1) (fun r2 => if r2 = 0 then (some ((-1) : Int32)) else (if (mx x2 0) < (mn x3 18) then (bnd (fJ1_indexOfChar_4cfef q0 x1 (mx x2 0) (mn x3 18)) (fun r5 => some r5)) else (some ((-1) : Int32))))
abbrev rm_J1_indexOf_4cfef : Room := { frames := 1, cells := 0, slots := 0, locals := 25 }
noncomputable def fJ0_indexOf_7cf53 (q0 : Nat) (x1 : Int32) (x2 : Int32) : Option (Int32) := bnd (fJ0_isLatin1_aae02 q0) (fun r2 => if r2 = 0 then (none) else (bnd (fJ0_length_8abf5 q0) (fun r8 => bnd (fJ1_indexOf_4cfef q0 x1 x2 r8) (fun r11 => some r11))))
abbrev rm_J0_indexOf_7cf53 : Room := { frames := 2, cells := 0, slots := 0, locals := 48 }
noncomputable def fJ0_indexOf_0f7a4 (q0 : Nat) (x1 : Int32) : Option (Int32) := bnd (fJ0_indexOf_7cf53 q0 x1 0) (fun r2 => some r2)
abbrev rm_J0_indexOf_0f7a4 : Room := { frames := 3, cells := 0, slots := 0, locals := 70 }
noncomputable def jX3_errorAt_75 (mm : gM) : Option (Int32) := some (gi mm 16 0 1)
noncomputable def jX3_errorAt_69 (k6 : Int32 → Int32 → Int32 → Option (Int32)) (mm : gM) (x1 : Int32) (x2 : Int32) (x3 : Int32) : Option (Int32) := k6 x1 x2 (x3 + 1)
noncomputable def jX3_errorAt_62 (mm : gM) (x3 : Int32) : Option (Int32) := some x3
noncomputable def lX3_errorAt_6 (mm : gM) : Nat → Int32 → Int32 → Int32 → Option (Int32)
  | 0, _, _, _ => none
  | n + 1, x1, x2, x3 => if 12 ≤ x3 then (jX3_errorAt_75 mm) else (if (gi mm 16 0 1) ≤ x3 then (jX3_errorAt_75 mm) else (chk (vp_in x3 12) (if (gi mm 17 0 x3.toNatClampNeg) = 46 then (if x2 = 0 then (some x3) else (jX3_errorAt_69 (lX3_errorAt_6 mm n) mm x1 0 x3)) else (if 6 ≤ x1 then (jX3_errorAt_62 mm x3) else (chk (vp_in x3 12) (bnd (fJ0_indexOf_0f7a4 4 (gi mm 17 0 x3.toNatClampNeg)) (fun r4 => if 0 ≤ r4 then (jX3_errorAt_69 (lX3_errorAt_6 mm n) mm (x1 + 1) 1 x3) else (jX3_errorAt_62 mm x3))))))))
theorem lX3_errorAt_6_s (mm : gM) (n : Nat) (x1 : Int32) (x2 : Int32) (x3 : Int32) : lX3_errorAt_6 mm (n + 1) x1 x2 x3 = if 12 ≤ x3 then (jX3_errorAt_75 mm) else (if (gi mm 16 0 1) ≤ x3 then (jX3_errorAt_75 mm) else (chk (vp_in x3 12) (if (gi mm 17 0 x3.toNatClampNeg) = 46 then (if x2 = 0 then (some x3) else (jX3_errorAt_69 (lX3_errorAt_6 mm n) mm x1 0 x3)) else (if 6 ≤ x1 then (jX3_errorAt_62 mm x3) else (chk (vp_in x3 12) (bnd (fJ0_indexOf_0f7a4 4 (gi mm 17 0 x3.toNatClampNeg)) (fun r4 => if 0 ≤ r4 then (jX3_errorAt_69 (lX3_errorAt_6 mm n) mm (x1 + 1) 1 x3) else (jX3_errorAt_62 mm x3)))))))) := rfl
noncomputable def fX3_errorAt (mm : gM) : Option (Int32) := lX3_errorAt_6 mm FU 0 0 0
abbrev rm_X3_errorAt : Room := { frames := 4, cells := 0, slots := 0, locals := 91 }
noncomputable def jX3_putOn_109 (t0 : Nat) (x2 : Int32) (mm : gM) : Option (Int32 × gM) := some (x2, mm)
noncomputable def jX3_putOn_103 (k31 : Int32 → Int32 → gM → Option (Int32 × gM)) (t0 : Nat) (x2 : Int32) (x3 : Int32) (mm : gM) : Option (Int32 × gM) := k31 x2 (x3 + 1) mm
noncomputable def jX3_putOn_85 (k31 : Int32 → Int32 → gM → Option (Int32 × gM)) (t0 : Nat) (x2 : Int32) (x3 : Int32) (mm : gM) : Option (Int32 × gM) := if x2 ≤ 0 then (jX3_putOn_103 k31 t0 x2 x3 mm) else (wth (si mm 0 t0 5 ((gi mm 0 t0 5) ||| (1 <<< ((x2 - 1) &&& 31)))) (fun m16 => jX3_putOn_103 k31 t0 x2 x3 m16))
noncomputable def lX3_putOn_31 (t0 : Nat) : Nat → Int32 → Int32 → gM → Option (Int32 × gM)
  | 0, _, _, _ => none
  | n + 1, x2, x3, mm => if 12 ≤ x3 then (jX3_putOn_109 t0 x2 mm) else (if (gi mm 16 0 1) ≤ x3 then (jX3_putOn_109 t0 x2 mm) else (chk (vp_in x3 12) (if (gi mm 17 0 x3.toNatClampNeg) = 46 then (jX3_putOn_85 (lX3_putOn_31 t0 n) t0 x2 x3 mm) else (if 6 ≤ x2 then (jX3_putOn_85 (lX3_putOn_31 t0 n) t0 x2 x3 mm) else (chk (vp_in x3 12) (bnd (fJ0_indexOf_0f7a4 4 (gi mm 17 0 x3.toNatClampNeg)) (fun r8 => chk (vp_in x2 6) (wth (si mm 1 t0 x2.toNatClampNeg r8) (fun m11 => jX3_putOn_103 (lX3_putOn_31 t0 n) t0 (x2 + 1) x3 m11)))))))))
theorem lX3_putOn_31_s (t0 : Nat) (n : Nat) (x2 : Int32) (x3 : Int32) (mm : gM) : lX3_putOn_31 t0 (n + 1) x2 x3 mm = if 12 ≤ x3 then (jX3_putOn_109 t0 x2 mm) else (if (gi mm 16 0 1) ≤ x3 then (jX3_putOn_109 t0 x2 mm) else (chk (vp_in x3 12) (if (gi mm 17 0 x3.toNatClampNeg) = 46 then (jX3_putOn_85 (lX3_putOn_31 t0 n) t0 x2 x3 mm) else (if 6 ≤ x2 then (jX3_putOn_85 (lX3_putOn_31 t0 n) t0 x2 x3 mm) else (chk (vp_in x3 12) (bnd (fJ0_indexOf_0f7a4 4 (gi mm 17 0 x3.toNatClampNeg)) (fun r8 => chk (vp_in x2 6) (wth (si mm 1 t0 x2.toNatClampNeg r8) (fun m11 => jX3_putOn_103 (lX3_putOn_31 t0 n) t0 (x2 + 1) x3 m11))))))))) := rfl
noncomputable def jX3_putOn_27 (t0 : Nat) (mm : gM) : Option (Int32 × gM) := lX3_putOn_31 t0 FU 0 0 mm
noncomputable def lX3_putOn_7 (t0 : Nat) : Nat → Int32 → gM → Option (Int32 × gM)
  | 0, _, _ => none
  | n + 1, x2, mm => if 6 ≤ x2 then (jX3_putOn_27 t0 mm) else (chk (vp_in x2 6) (wth (si mm 1 t0 x2.toNatClampNeg 17) (fun m3 => (lX3_putOn_7 t0 n) (x2 + 1) m3)))
theorem lX3_putOn_7_s (t0 : Nat) (n : Nat) (x2 : Int32) (mm : gM) : lX3_putOn_7 t0 (n + 1) x2 mm = if 6 ≤ x2 then (jX3_putOn_27 t0 mm) else (chk (vp_in x2 6) (wth (si mm 1 t0 x2.toNatClampNeg 17) (fun m3 => (lX3_putOn_7 t0 n) (x2 + 1) m3))) := rfl
noncomputable def fX3_putOn (t0 : Nat) (mm : gM) : Option (Int32 × gM) := wth (si mm 0 t0 5 0) (fun m1 => lX3_putOn_7 t0 FU 0 m1)
abbrev rm_X3_putOn : Room := { frames := 4, cells := 0, slots := 0, locals := 91 }
noncomputable def jX4_glowAfter_46 (k9 : Int32 → Int32 → Int32 → Int32 → Int32 → Option (Int32)) (t0 : Nat) (mm : gM) (x1 : Int32) (x4 : Int32) (x5 : Int32) (x7 : Int32) (s0 : Int32) : Option (Int32) := k9 x1 x4 x5 s0 (x7 + 1)
noncomputable def lX4_glowAfter_9 (t0 : Nat) (mm : gM) : Nat → Int32 → Int32 → Int32 → Int32 → Int32 → Option (Int32)
  | 0, _, _, _, _, _ => none
  | n + 1, x1, x4, x5, x6, x7 => if x1 ≤ x7 then (some x5) else (bnd (fX4_glowBehind t0 x6 x5 x4 mm) (fun r2 => if (gi mm 11 t0 0) ≤ (x6 + 1) then (jX4_glowAfter_46 (lX4_glowAfter_9 t0 mm n) t0 mm x1 x4 r2 x7 0) else (jX4_glowAfter_46 (lX4_glowAfter_9 t0 mm n) t0 mm x1 x4 r2 x7 (x6 + 1))))
theorem lX4_glowAfter_9_s (t0 : Nat) (mm : gM) (n : Nat) (x1 : Int32) (x4 : Int32) (x5 : Int32) (x6 : Int32) (x7 : Int32) : lX4_glowAfter_9 t0 mm (n + 1) x1 x4 x5 x6 x7 = if x1 ≤ x7 then (some x5) else (bnd (fX4_glowBehind t0 x6 x5 x4 mm) (fun r2 => if (gi mm 11 t0 0) ≤ (x6 + 1) then (jX4_glowAfter_46 (lX4_glowAfter_9 t0 mm n) t0 mm x1 x4 r2 x7 0) else (jX4_glowAfter_46 (lX4_glowAfter_9 t0 mm n) t0 mm x1 x4 r2 x7 (x6 + 1)))) := rfl
noncomputable def fX4_glowAfter (t0 : Nat) (x1 : Int32) (x2 : Int32) (x3 : Int32) (x4 : Int32) (mm : gM) : Option (Int32) := lX4_glowAfter_9 t0 mm FU x1 x4 x3 x2 0
abbrev rm_X4_glowAfter : Room := { frames := 2, cells := 0, slots := 0, locals := 46 }
noncomputable def jX5_saveState_35 (s1 : Int32) (mm : gM) : Option (gM) := wth (si mm 12 0 10 s1) (fun m7 => wth (si m7 12 0 9 (mn ((gi m7 12 0 9) + 1) 6)) (fun m8 => bnd (fX1_forget 0 m8) (fun m11 => some m11)))
noncomputable def fX5_saveState (mm : gM) : Option (gM) := chk (vp_in (gi mm 12 0 10) 6) (bnd (fX2_copyFrom (4 + (gi mm 12 0 10).toNatClampNeg) 0 mm) (fun m5 => if 5 ≤ (gi m5 12 0 10) then (jX5_saveState_35 0 m5) else (jX5_saveState_35 ((gi m5 12 0 10) + 1) m5)))
abbrev rm_X5_saveState : Room := { frames := 2, cells := 0, slots := 0, locals := 81 }
noncomputable def jX5_fadeAndLight_82 (k2 : Int32 → Int32 → gM → Option (gM)) (x1 : Int32) (x2 : Int32) (mm : gM) : Option (gM) := k2 x1 (x2 + 1) mm
noncomputable def lX5_fadeAndLight_22 (k2 : Int32 → Int32 → gM → Option (gM)) : Nat → Int32 → Int32 → Int32 → gM → Option (gM)
  | 0, _, _, _, _ => none
  | n + 1, x1, x2, x3, mm => if 8 ≤ x3 then (jX5_fadeAndLight_82 k2 x1 x2 mm) else (chk (vp_in ((x2 * 8) + x3) 48) (wth (gi mm 4 0 ((x2 * 8) + x3).toNatClampNeg) (fun v6 => bnd (fX4_glowAfter 2 x1 (gi mm 0 0 8) v6 x3 mm) (fun r8 => chk (vp_in ((x2 * 8) + x3) 48) (wth (si mm 4 0 ((x2 * 8) + x3).toNatClampNeg r8) (fun m11 => (lX5_fadeAndLight_22 k2 n) x1 x2 (x3 + 1) m11))))))
theorem lX5_fadeAndLight_22_s (k2 : Int32 → Int32 → gM → Option (gM)) (n : Nat) (x1 : Int32) (x2 : Int32) (x3 : Int32) (mm : gM) : lX5_fadeAndLight_22 k2 (n + 1) x1 x2 x3 mm = if 8 ≤ x3 then (jX5_fadeAndLight_82 k2 x1 x2 mm) else (chk (vp_in ((x2 * 8) + x3) 48) (wth (gi mm 4 0 ((x2 * 8) + x3).toNatClampNeg) (fun v6 => bnd (fX4_glowAfter 2 x1 (gi mm 0 0 8) v6 x3 mm) (fun r8 => chk (vp_in ((x2 * 8) + x3) 48) (wth (si mm 4 0 ((x2 * 8) + x3).toNatClampNeg r8) (fun m11 => (lX5_fadeAndLight_22 k2 n) x1 x2 (x3 + 1) m11)))))) := rfl
noncomputable def lX5_fadeAndLight_2 : Nat → Int32 → Int32 → gM → Option (gM)
  | 0, _, _, _ => none
  | n + 1, x1, x2, mm => if 6 ≤ x2 then (some mm) else (bnd (fX4_take 2 0 x2 mm) (fun m3 => lX5_fadeAndLight_22 (lX5_fadeAndLight_2 n) FU x1 x2 0 m3))
theorem lX5_fadeAndLight_2_s (n : Nat) (x1 : Int32) (x2 : Int32) (mm : gM) : lX5_fadeAndLight_2 (n + 1) x1 x2 mm = if 6 ≤ x2 then (some mm) else (bnd (fX4_take 2 0 x2 mm) (fun m3 => lX5_fadeAndLight_22 (lX5_fadeAndLight_2 n) FU x1 x2 0 m3)) := rfl
noncomputable def fX5_fadeAndLight (x1 : Int32) (mm : gM) : Option (gM) := lX5_fadeAndLight_2 FU x1 0 mm
abbrev rm_X5_fadeAndLight : Room := { frames := 3, cells := 0, slots := 0, locals := 73 }
noncomputable def fX5_clearBuffer (mm : gM) : Option (Int32 × gM) := wth (si mm 16 0 1 0) (fun m1 => some (gi mm 16 0 1, m1))
abbrev rm_X5_clearBuffer : Room := { frames := 0, cells := 0, slots := 0, locals := 0 }
noncomputable def fX5_firstError (mm : gM) : Option (Int32) := bnd (fX3_errorAt mm) (fun r2 => some r2)
abbrev rm_X5_firstError : Room := { frames := 5, cells := 0, slots := 0, locals := 114 }
noncomputable def jJ3_checkIndex_8e157_9 (x0 : Int32) (x1 : Int32) : Option (Int32) := none
noncomputable def fJ3_checkIndex_8e157 (x0 : Int32) (x1 : Int32) : Option (Int32) := if x0 < 0 then (jJ3_checkIndex_8e157_9 x0 x1) else (if x0 < x1 then (some x0) else (jJ3_checkIndex_8e157_9 x0 x1))
abbrev rm_J3_checkIndex_8e157 : Room := { frames := 0, cells := 0, slots := 0, locals := 0 }
noncomputable def fJ0_checkIndex_df160 (x0 : Int32) (x1 : Int32) : Option (Unit) := bnd (fJ3_checkIndex_8e157 x0 x1) (fun r3 => some ())
abbrev rm_J0_checkIndex_df160 : Room := { frames := 1, cells := 0, slots := 0, locals := 22 }
noncomputable def fJ1_charAt_3b067 (q0 : Nat) (x1 : Int32) : Option (Int32) := bnd (fJ0_checkIndex_df160 x1 18) (fun r2 => chk (vp_in x1 18) (chk (bc (i2c ((tCodes.getD x1.toNatClampNeg 0) &&& 255))) (some (i2c ((tCodes.getD x1.toNatClampNeg 0) &&& 255)))))
abbrev rm_J1_charAt_3b067 : Room := { frames := 2, cells := 0, slots := 0, locals := 43 }
noncomputable def fJ0_charAt_5068e (q0 : Nat) (x1 : Int32) : Option (Int32) := bnd (fJ0_isLatin1_aae02 q0) (fun r2 => if r2 = 0 then (none) else (bnd (fJ1_charAt_3b067 q0 x1) (fun r5 => chk (bc r5) (some r5))))
abbrev rm_J0_charAt_5068e : Room := { frames := 3, cells := 0, slots := 0, locals := 64 }
noncomputable def jX5_codeOf_20 : Option (Int32) := chk (bc 63) (some (63 : Int32))
noncomputable def fX5_codeOf (x0 : Int32) : Option (Int32) := if x0 < 0 then (jX5_codeOf_20 ) else (if 18 ≤ x0 then (jX5_codeOf_20 ) else (bnd (fJ0_charAt_5068e 6 x0) (fun r2 => chk (bc r2) (some r2))))
abbrev rm_X5_codeOf : Room := { frames := 4, cells := 0, slots := 0, locals := 85 }
noncomputable def jX5_write_74 (mm : gM) : Option (Int32 × gM) := some (gi mm 16 0 1, mm)
noncomputable def jX5_write_68 (k10 : Int32 → gM → Option (Int32 × gM)) (x1 : Int32) (mm : gM) : Option (Int32 × gM) := k10 (x1 + 1) mm
noncomputable def lX5_write_10 : Nat → Int32 → gM → Option (Int32 × gM)
  | 0, _, _ => none
  | n + 1, x1, mm => if 6 ≤ x1 then (jX5_write_74 mm) else (bnd (fX1_look 0 x1 mm) (fun m4 => bnd (fX1_readAs 0 x1 m4) (fun r6 => bnd (fX5_codeOf r6) (fun r9 => bnd (fX3_put r9 m4) (fun m13 => bnd (fX1_seen 0 x1 m13) (fun r15 => bnd (fX5_bit r15 7) (fun r18 => if r18 = 1 then (bnd (fX3_put 46 m13) (fun m22 => jX5_write_68 (lX5_write_10 n) x1 m22)) else (jX5_write_68 (lX5_write_10 n) x1 m13))))))))
theorem lX5_write_10_s (n : Nat) (x1 : Int32) (mm : gM) : lX5_write_10 (n + 1) x1 mm = if 6 ≤ x1 then (jX5_write_74 mm) else (bnd (fX1_look 0 x1 mm) (fun m4 => bnd (fX1_readAs 0 x1 m4) (fun r6 => bnd (fX5_codeOf r6) (fun r9 => bnd (fX3_put r9 m4) (fun m13 => bnd (fX1_seen 0 x1 m13) (fun r15 => bnd (fX5_bit r15 7) (fun r18 => if r18 = 1 then (bnd (fX3_put 46 m13) (fun m22 => jX5_write_68 (lX5_write_10 n) x1 m22)) else (jX5_write_68 (lX5_write_10 n) x1 m13)))))))) := rfl
noncomputable def fX5_write (mm : gM) : Option (Int32 × gM) := wth (si mm 16 0 1 0) (fun m1 => lX5_write_10 FU 0 m1)
abbrev rm_X5_write : Room := { frames := 5, cells := 0, slots := 0, locals := 105 }
noncomputable def jX5_readRight_51 (mm : gM) : Option (Int32) := chk (bz 0) (some (0 : Int32))
noncomputable def fX5_readRight (x1 : Int32) (mm : gM) : Option (Int32) := bnd (fX1_readAs 0 x1 mm) (fun r2 => chk (vp_in x1 6) (if r2 = (gi mm 1 0 x1.toNatClampNeg) then (bnd (fX1_seen 0 x1 mm) (fun r6 => bnd (fX5_bit r6 7) (fun r9 => bnd (fX5_bit (gi mm 0 0 5) x1) (fun r12 => if r9 = r12 then (chk (bz 1) (some (1 : Int32))) else (jX5_readRight_51 mm))))) else (jX5_readRight_51 mm)))
abbrev rm_X5_readRight : Room := { frames := 2, cells := 0, slots := 0, locals := 46 }
noncomputable def jX5_slotProperty_14 (x1 : Int32) (x2 : Int32) (mm : gM) : Option (Int32 × gM) := if x2 = 0 then (chk (vp_in x1 6) (some (gi mm 1 0 x1.toNatClampNeg, mm))) else (if x2 = 1 then (bnd (fX5_bit (gi mm 0 0 5) x1) (fun r8 => some (r8, mm))) else (if x2 = 2 then (chk (vp_in x1 6) (some (gi mm 3 0 x1.toNatClampNeg, mm))) else (if x2 = 3 then (chk (vp_in x1 6) (some (gi mm 2 0 x1.toNatClampNeg, mm))) else (if x2 = 4 then (bnd (fX2_works 0 x1 mm) (fun r16 => some (r16, mm))) else (if x2 = 5 then (bnd (fX2_works 0 x1 mm) (fun r20 => bnd (fX2_lightFor 0 r20 mm) (fun r23 => some (r23, mm)))) else (if x2 = 6 then (bnd (fX1_seen 0 x1 mm) (fun r27 => some (r27, mm))) else (if x2 = 7 then (bnd (fX1_readAs 0 x1 mm) (fun r31 => some (r31, mm))) else (if x2 = 8 then (bnd (fX5_readRight x1 mm) (fun r35 => if r35 = 0 then (some ((0 : Int32), mm)) else (some ((1 : Int32), mm)))) else (bnd (fX1_mean 0 x1 mm) (fun r40 => some (r40, mm)))))))))))
noncomputable def fX5_slotProperty (x1 : Int32) (x2 : Int32) (mm : gM) : Option (Int32 × gM) := if x2 < 6 then (jX5_slotProperty_14 x1 x2 mm) else (bnd (fX1_look 0 x1 mm) (fun m3 => jX5_slotProperty_14 x1 x2 m3))
abbrev rm_X5_slotProperty : Room := { frames := 4, cells := 0, slots := 0, locals := 98 }
noncomputable def fX5_segmentProperty (x1 : Int32) (x2 : Int32) (x3 : Int32) (mm : gM) : Option (Int32 × gM) := if x3 = 0 then (chk (vp_in ((x1 * 8) + x2) 48) (some (gi mm 4 0 ((x1 * 8) + x2).toNatClampNeg, mm))) else (bnd (fX1_look 0 x1 mm) (fun m3 => if x3 = 1 then (chk (vp_in ((x1 * 8) + x2) 48) (some (gi m3 7 0 ((x1 * 8) + x2).toNatClampNeg, m3))) else (if x3 = 2 then (chk (vp_in ((x1 * 8) + x2) 48) (some (gi m3 8 0 ((x1 * 8) + x2).toNatClampNeg, m3))) else (chk (vp_in ((x1 * 8) + x2) 48) (some (gi m3 9 0 ((x1 * 8) + x2).toNatClampNeg, m3))))))
abbrev rm_X5_segmentProperty : Room := { frames := 4, cells := 0, slots := 0, locals := 98 }
noncomputable def fX5_lightInTick (x1 : Int32) (mm : gM) : Option (Int32) := bnd (fX2_works 0 x1 mm) (fun r2 => bnd (fJ6_bitCount_0f7a4 r2) (fun r5 => bnd (fX2_lightFor 0 r2 mm) (fun r8 => some (r5 * r8))))
abbrev rm_X5_lightInTick : Room := { frames := 2, cells := 0, slots := 0, locals := 43 }
noncomputable def jX5_lightByTicks_42 (k12 : Int32 → Int32 → Int32 → Option (Int32)) (mm : gM) (x1 : Int32) (x2 : Int32) (x3 : Int32) : Option (Int32) := k12 x1 x2 (x3 + 1)
noncomputable def lX5_lightByTicks_12 (mm : gM) : Nat → Int32 → Int32 → Int32 → Option (Int32)
  | 0, _, _, _ => none
  | n + 1, x1, x2, x3 => if x2 ≤ x3 then (some x1) else (bnd (fX2_litIn 0 x3 mm) (fun r5 => if r5 = (-1) then (jX5_lightByTicks_42 (lX5_lightByTicks_12 mm n) mm x1 x2 x3) else (bnd (fX5_lightInTick r5 mm) (fun r8 => jX5_lightByTicks_42 (lX5_lightByTicks_12 mm n) mm (x1 + r8) x2 x3))))
theorem lX5_lightByTicks_12_s (mm : gM) (n : Nat) (x1 : Int32) (x2 : Int32) (x3 : Int32) : lX5_lightByTicks_12 mm (n + 1) x1 x2 x3 = if x2 ≤ x3 then (some x1) else (bnd (fX2_litIn 0 x3 mm) (fun r5 => if r5 = (-1) then (jX5_lightByTicks_42 (lX5_lightByTicks_12 mm n) mm x1 x2 x3) else (bnd (fX5_lightInTick r5 mm) (fun r8 => jX5_lightByTicks_42 (lX5_lightByTicks_12 mm n) mm (x1 + r8) x2 x3)))) := rfl
noncomputable def fX5_lightByTicks (mm : gM) : Option (Int32) := bnd (fX2_roundTicks 0 mm) (fun r2 => lX5_lightByTicks_12 mm FU 0 r2 0)
abbrev rm_X5_lightByTicks : Room := { frames := 3, cells := 0, slots := 0, locals := 65 }
noncomputable def lX5_lightBySlots_4 (mm : gM) : Nat → Int32 → Int32 → Option (Int32)
  | 0, _, _ => none
  | n + 1, x1, x2 => if 6 ≤ x2 then (some x1) else (chk (vp_in x2 6) (bnd (fX5_lightInTick x2 mm) (fun r3 => wth (x1 + ((gi mm 3 0 x2.toNatClampNeg) * r3)) (fun v5 => (lX5_lightBySlots_4 mm n) v5 (x2 + 1)))))
theorem lX5_lightBySlots_4_s (mm : gM) (n : Nat) (x1 : Int32) (x2 : Int32) : lX5_lightBySlots_4 mm (n + 1) x1 x2 = if 6 ≤ x2 then (some x1) else (chk (vp_in x2 6) (bnd (fX5_lightInTick x2 mm) (fun r3 => wth (x1 + ((gi mm 3 0 x2.toNatClampNeg) * r3)) (fun v5 => (lX5_lightBySlots_4 mm n) v5 (x2 + 1))))) := rfl
noncomputable def fX5_lightBySlots (mm : gM) : Option (Int32) := lX5_lightBySlots_4 mm FU 0 0
abbrev rm_X5_lightBySlots : Room := { frames := 3, cells := 0, slots := 0, locals := 65 }
noncomputable def jX5_workingSlots_24 (k4 : Int32 → Int32 → Option (Int32)) (mm : gM) (x1 : Int32) (x2 : Int32) : Option (Int32) := k4 x1 (x2 + 1)
noncomputable def lX5_workingSlots_4 (mm : gM) : Nat → Int32 → Int32 → Option (Int32)
  | 0, _, _ => none
  | n + 1, x1, x2 => if 6 ≤ x2 then (some x1) else (bnd (fX2_works 0 x2 mm) (fun r2 => if r2 = 0 then (jX5_workingSlots_24 (lX5_workingSlots_4 mm n) mm x1 x2) else (jX5_workingSlots_24 (lX5_workingSlots_4 mm n) mm (x1 + 1) x2)))
theorem lX5_workingSlots_4_s (mm : gM) (n : Nat) (x1 : Int32) (x2 : Int32) : lX5_workingSlots_4 mm (n + 1) x1 x2 = if 6 ≤ x2 then (some x1) else (bnd (fX2_works 0 x2 mm) (fun r2 => if r2 = 0 then (jX5_workingSlots_24 (lX5_workingSlots_4 mm n) mm x1 x2) else (jX5_workingSlots_24 (lX5_workingSlots_4 mm n) mm (x1 + 1) x2))) := rfl
noncomputable def fX5_workingSlots (mm : gM) : Option (Int32) := lX5_workingSlots_4 mm FU 0 0
abbrev rm_X5_workingSlots : Room := { frames := 2, cells := 0, slots := 0, locals := 43 }
noncomputable def jX5_slotsReadAsTheirSigns_41 (k4 : Int32 → Int32 → gM → Option (Int32 × gM)) (x1 : Int32) (x2 : Int32) (mm : gM) : Option (Int32 × gM) := k4 x1 (x2 + 1) mm
noncomputable def lX5_slotsReadAsTheirSigns_4 : Nat → Int32 → Int32 → gM → Option (Int32 × gM)
  | 0, _, _, _ => none
  | n + 1, x1, x2, mm => if 6 ≤ x2 then (some (x1, mm)) else (bnd (fX1_look 0 x2 mm) (fun m3 => bnd (fX1_readAs 0 x2 m3) (fun r5 => chk (vp_in x2 6) (if r5 = (gi m3 1 0 x2.toNatClampNeg) then (jX5_slotsReadAsTheirSigns_41 (lX5_slotsReadAsTheirSigns_4 n) (x1 + 1) x2 m3) else (jX5_slotsReadAsTheirSigns_41 (lX5_slotsReadAsTheirSigns_4 n) x1 x2 m3)))))
theorem lX5_slotsReadAsTheirSigns_4_s (n : Nat) (x1 : Int32) (x2 : Int32) (mm : gM) : lX5_slotsReadAsTheirSigns_4 (n + 1) x1 x2 mm = if 6 ≤ x2 then (some (x1, mm)) else (bnd (fX1_look 0 x2 mm) (fun m3 => bnd (fX1_readAs 0 x2 m3) (fun r5 => chk (vp_in x2 6) (if r5 = (gi m3 1 0 x2.toNatClampNeg) then (jX5_slotsReadAsTheirSigns_41 (lX5_slotsReadAsTheirSigns_4 n) (x1 + 1) x2 m3) else (jX5_slotsReadAsTheirSigns_41 (lX5_slotsReadAsTheirSigns_4 n) x1 x2 m3))))) := rfl
noncomputable def fX5_slotsReadAsTheirSigns (mm : gM) : Option (Int32 × gM) := lX5_slotsReadAsTheirSigns_4 FU 0 0 mm
abbrev rm_X5_slotsReadAsTheirSigns : Room := { frames := 4, cells := 0, slots := 0, locals := 98 }
noncomputable def jX5_unevenness_63 (x1 : Int32) (x2 : Int32) (mm : gM) : Option (Int32 × gM) := some (mx 0 (x1 - x2), mm)
noncomputable def jX5_unevenness_57 (k8 : Int32 → Int32 → Int32 → gM → Option (Int32 × gM)) (x1 : Int32) (x2 : Int32) (x3 : Int32) (mm : gM) : Option (Int32 × gM) := k8 x1 x2 (x3 + 1) mm
noncomputable def lX5_unevenness_8 : Nat → Int32 → Int32 → Int32 → gM → Option (Int32 × gM)
  | 0, _, _, _, _ => none
  | n + 1, x1, x2, x3, mm => if 6 ≤ x3 then (jX5_unevenness_63 x1 x2 mm) else (bnd (fX2_works 0 x3 mm) (fun r2 => if r2 = 0 then (jX5_unevenness_57 (lX5_unevenness_8 n) x1 x2 x3 mm) else (bnd (fX1_look 0 x3 mm) (fun m6 => bnd (fX1_mean 0 x3 m6) (fun r8 => jX5_unevenness_57 (lX5_unevenness_8 n) (mx x1 r8) (mn x2 r8) x3 m6)))))
theorem lX5_unevenness_8_s (n : Nat) (x1 : Int32) (x2 : Int32) (x3 : Int32) (mm : gM) : lX5_unevenness_8 (n + 1) x1 x2 x3 mm = if 6 ≤ x3 then (jX5_unevenness_63 x1 x2 mm) else (bnd (fX2_works 0 x3 mm) (fun r2 => if r2 = 0 then (jX5_unevenness_57 (lX5_unevenness_8 n) x1 x2 x3 mm) else (bnd (fX1_look 0 x3 mm) (fun m6 => bnd (fX1_mean 0 x3 m6) (fun r8 => jX5_unevenness_57 (lX5_unevenness_8 n) (mx x1 r8) (mn x2 r8) x3 m6))))) := rfl
noncomputable def fX5_unevenness (mm : gM) : Option (Int32 × gM) := lX5_unevenness_8 FU 0 1073741824 0 mm
abbrev rm_X5_unevenness : Room := { frames := 4, cells := 0, slots := 0, locals := 98 }
noncomputable def jX5_flicker_88 (k4 : Int32 → Int32 → gM → Option (Int32 × gM)) (x1 : Int32) (x2 : Int32) (mm : gM) : Option (Int32 × gM) := k4 x1 (x2 + 1) mm
noncomputable def jX5_flicker_82 (k4 : Int32 → Int32 → gM → Option (Int32 × gM)) (k30 : Int32 → Int32 → Int32 → Int32 → gM → Option (Int32 × gM)) (x1 : Int32) (x2 : Int32) (x3 : Int32) (x4 : Int32) (mm : gM) : Option (Int32 × gM) := k30 x1 x2 x3 (x4 + 1) mm
noncomputable def lX5_flicker_30 (k4 : Int32 → Int32 → gM → Option (Int32 × gM)) : Nat → Int32 → Int32 → Int32 → Int32 → gM → Option (Int32 × gM)
  | 0, _, _, _, _, _ => none
  | n + 1, x1, x2, x3, x4, mm => if 8 ≤ x4 then (jX5_flicker_88 k4 x1 x2 mm) else (bnd (fX5_bit x3 x4) (fun r9 => if r9 = 1 then (chk (vp_in ((x2 * 8) + x4) 48) (chk (vp_in ((x2 * 8) + x4) 48) (wth (mx x1 ((gi mm 8 0 ((x2 * 8) + x4).toNatClampNeg) - (gi mm 9 0 ((x2 * 8) + x4).toNatClampNeg))) (fun v13 => jX5_flicker_82 k4 (lX5_flicker_30 k4 n) v13 x2 x3 x4 mm)))) else (jX5_flicker_82 k4 (lX5_flicker_30 k4 n) x1 x2 x3 x4 mm)))
theorem lX5_flicker_30_s (k4 : Int32 → Int32 → gM → Option (Int32 × gM)) (n : Nat) (x1 : Int32) (x2 : Int32) (x3 : Int32) (x4 : Int32) (mm : gM) : lX5_flicker_30 k4 (n + 1) x1 x2 x3 x4 mm = if 8 ≤ x4 then (jX5_flicker_88 k4 x1 x2 mm) else (bnd (fX5_bit x3 x4) (fun r9 => if r9 = 1 then (chk (vp_in ((x2 * 8) + x4) 48) (chk (vp_in ((x2 * 8) + x4) 48) (wth (mx x1 ((gi mm 8 0 ((x2 * 8) + x4).toNatClampNeg) - (gi mm 9 0 ((x2 * 8) + x4).toNatClampNeg))) (fun v13 => jX5_flicker_82 k4 (lX5_flicker_30 k4 n) v13 x2 x3 x4 mm)))) else (jX5_flicker_82 k4 (lX5_flicker_30 k4 n) x1 x2 x3 x4 mm))) := rfl
noncomputable def lX5_flicker_4 : Nat → Int32 → Int32 → gM → Option (Int32 × gM)
  | 0, _, _, _ => none
  | n + 1, x1, x2, mm => if 6 ≤ x2 then (some (x1, mm)) else (bnd (fX2_works 0 x2 mm) (fun r2 => bnd (fX1_look 0 x2 mm) (fun m6 => lX5_flicker_30 (lX5_flicker_4 n) FU x1 x2 r2 0 m6)))
theorem lX5_flicker_4_s (n : Nat) (x1 : Int32) (x2 : Int32) (mm : gM) : lX5_flicker_4 (n + 1) x1 x2 mm = if 6 ≤ x2 then (some (x1, mm)) else (bnd (fX2_works 0 x2 mm) (fun r2 => bnd (fX1_look 0 x2 mm) (fun m6 => lX5_flicker_30 (lX5_flicker_4 n) FU x1 x2 r2 0 m6))) := rfl
noncomputable def fX5_flicker (mm : gM) : Option (Int32 × gM) := lX5_flicker_4 FU 0 0 mm
abbrev rm_X5_flicker : Room := { frames := 4, cells := 0, slots := 0, locals := 98 }
noncomputable def fX5_number (x1 : Int32) (mm : gM) : Option (Int32 × gM) := if x1 = 0 then (some (gi mm 0 0 7, mm)) else (if x1 = 1 then (bnd (fX2_roundTicks 0 mm) (fun r3 => some (r3, mm))) else (if x1 = 2 then (some (gi mm 0 0 8, mm)) else (if x1 = 3 then (bnd (fX2_litIn 0 (gi mm 0 0 8) mm) (fun r8 => some (r8, mm))) else (if x1 = 4 then (some (gi mm 0 0 9, mm)) else (if x1 = 5 then (bnd (fX5_lightByTicks mm) (fun r13 => some (r13, mm))) else (if x1 = 6 then (bnd (fX5_lightBySlots mm) (fun r17 => some (r17, mm))) else (if x1 = 7 then (some (gi mm 0 0 6, mm)) else (if x1 = 8 then (bnd (fX5_workingSlots mm) (fun r22 => some (r22, mm))) else (if x1 = 9 then (bn2 (fX5_slotsReadAsTheirSigns mm) (fun r26 m27 => some (r26, m27))) else (if x1 = 10 then (bn2 (fX5_unevenness mm) (fun r30 m31 => some (r30, m31))) else (if x1 = 11 then (bn2 (fX5_flicker mm) (fun r34 m35 => some (r34, m35))) else (some (gi mm 12 0 9, mm)))))))))))))
abbrev rm_X5_number : Room := { frames := 5, cells := 0, slots := 0, locals := 123 }
noncomputable def jX5_alikeSigns_53 (k32 : Int32 → Int32 → Int32 → Int32 → Option (Int32)) (mm : gM) (x2 : Int32) (x3 : Int32) (x4 : Int32) (x5 : Int32) : Option (Int32) := k32 x2 x3 x4 (x5 + 1)
noncomputable def lX5_alikeSigns_32 (mm : gM) : Nat → Int32 → Int32 → Int32 → Int32 → Option (Int32)
  | 0, _, _, _, _ => none
  | n + 1, x2, x3, x4, x5 => if 18 ≤ x5 then (some x4) else (bnd (fX5_maskOf x5) (fun r9 => if (r9 &&& x2) = x3 then (jX5_alikeSigns_53 (lX5_alikeSigns_32 mm n) mm x2 x3 (x4 + 1) x5) else (jX5_alikeSigns_53 (lX5_alikeSigns_32 mm n) mm x2 x3 x4 x5)))
theorem lX5_alikeSigns_32_s (mm : gM) (n : Nat) (x2 : Int32) (x3 : Int32) (x4 : Int32) (x5 : Int32) : lX5_alikeSigns_32 mm (n + 1) x2 x3 x4 x5 = if 18 ≤ x5 then (some x4) else (bnd (fX5_maskOf x5) (fun r9 => if (r9 &&& x2) = x3 then (jX5_alikeSigns_53 (lX5_alikeSigns_32 mm n) mm x2 x3 (x4 + 1) x5) else (jX5_alikeSigns_53 (lX5_alikeSigns_32 mm n) mm x2 x3 x4 x5))) := rfl
noncomputable def fX5_alikeSigns (x1 : Int32) (mm : gM) : Option (Int32) := bnd (fX2_failing 0 x1 mm) (fun r2 => chk (vp_in x1 6) (bnd (fX5_maskOf (gi mm 1 0 x1.toNatClampNeg)) (fun r6 => lX5_alikeSigns_32 mm FU (r2 ^^^ (-1)) (r6 &&& (r2 ^^^ (-1))) 0 0)))
abbrev rm_X5_alikeSigns : Room := { frames := 1, cells := 0, slots := 0, locals := 21 }
noncomputable def jX5_lowestAlike_56 (mm : gM) (x1 : Int32) : Option (Int32) := chk (vp_in x1 6) (some (gi mm 1 0 x1.toNatClampNeg))
noncomputable def lX5_lowestAlike_29 (mm : gM) : Nat → Int32 → Int32 → Int32 → Int32 → Option (Int32)
  | 0, _, _, _, _ => none
  | n + 1, x1, x2, x3, x4 => if 18 ≤ x4 then (jX5_lowestAlike_56 mm x1) else (bnd (fX5_maskOf x4) (fun r9 => if (r9 &&& x2) = x3 then (some x4) else ((lX5_lowestAlike_29 mm n) x1 x2 x3 (x4 + 1))))
theorem lX5_lowestAlike_29_s (mm : gM) (n : Nat) (x1 : Int32) (x2 : Int32) (x3 : Int32) (x4 : Int32) : lX5_lowestAlike_29 mm (n + 1) x1 x2 x3 x4 = if 18 ≤ x4 then (jX5_lowestAlike_56 mm x1) else (bnd (fX5_maskOf x4) (fun r9 => if (r9 &&& x2) = x3 then (some x4) else ((lX5_lowestAlike_29 mm n) x1 x2 x3 (x4 + 1)))) := rfl
noncomputable def fX5_lowestAlike (x1 : Int32) (mm : gM) : Option (Int32) := bnd (fX2_failing 0 x1 mm) (fun r2 => chk (vp_in x1 6) (bnd (fX5_maskOf (gi mm 1 0 x1.toNatClampNeg)) (fun r6 => lX5_lowestAlike_29 mm FU x1 (r2 ^^^ (-1)) (r6 &&& (r2 ^^^ (-1))) 0)))
abbrev rm_X5_lowestAlike : Room := { frames := 1, cells := 0, slots := 0, locals := 21 }
noncomputable def fX5_meanIfTimed (x1 : Int32) (x2 : Int32) (mm : gM) : Option (Int32 × gM) := bnd (fX2_copyFrom 1 0 mm) (fun m3 => chk (vp_in x1 6) (wth (si m3 3 1 x1.toNatClampNeg x2) (fun m5 => bnd (fX1_forget 1 m5) (fun m8 => bnd (fX1_look 1 x1 m8) (fun m11 => bnd (fX1_mean 1 x1 m11) (fun r13 => some (r13, m11)))))))
abbrev rm_X5_meanIfTimed : Room := { frames := 4, cells := 0, slots := 0, locals := 98 }
noncomputable def fX5_timeIfBalanced (x1 : Int32) (x2 : Int32) (mm : gM) : Option (Int32 × gM) := bn2 (fX0_spread 0 x1 mm) (fun r2 m3 => if r2 = 0 then (some (((-1) : Int32), m3)) else (chk (vp_in x2 6) (some (gi m3 14 0 x2.toNatClampNeg, m3))))
abbrev rm_X5_timeIfBalanced : Room := { frames := 3, cells := 0, slots := 0, locals := 70 }
noncomputable def jX5_leastHurt_67 (k18 : Int32 → Int32 → Int32 → Int32 → Option (Int32)) (mm : gM) (x2 : Int32) (x3 : Int32) (x4 : Int32) (x5 : Int32) : Option (Int32) := k18 x2 x3 x4 (x5 + 1)
noncomputable def lX5_leastHurt_18 (mm : gM) : Nat → Int32 → Int32 → Int32 → Int32 → Option (Int32)
  | 0, _, _, _, _ => none
  | n + 1, x2, x3, x4, x5 => if 18 ≤ x5 then (some x3) else (bnd (fX5_maskOf x5) (fun r5 => bnd (fJ6_bitCount_0f7a4 (r5 &&& (x2 ^^^ (-1)))) (fun r8 => bnd (fX5_maskOf x5) (fun r11 => bnd (fJ6_bitCount_0f7a4 (r11 &&& x2)) (fun r14 => if 1 < r14 then (jX5_leastHurt_67 (lX5_leastHurt_18 mm n) mm x2 x3 x4 x5) else (if r8 ≤ x4 then (jX5_leastHurt_67 (lX5_leastHurt_18 mm n) mm x2 x3 x4 x5) else (jX5_leastHurt_67 (lX5_leastHurt_18 mm n) mm x2 x5 r8 x5)))))))
theorem lX5_leastHurt_18_s (mm : gM) (n : Nat) (x2 : Int32) (x3 : Int32) (x4 : Int32) (x5 : Int32) : lX5_leastHurt_18 mm (n + 1) x2 x3 x4 x5 = if 18 ≤ x5 then (some x3) else (bnd (fX5_maskOf x5) (fun r5 => bnd (fJ6_bitCount_0f7a4 (r5 &&& (x2 ^^^ (-1)))) (fun r8 => bnd (fX5_maskOf x5) (fun r11 => bnd (fJ6_bitCount_0f7a4 (r11 &&& x2)) (fun r14 => if 1 < r14 then (jX5_leastHurt_67 (lX5_leastHurt_18 mm n) mm x2 x3 x4 x5) else (if r8 ≤ x4 then (jX5_leastHurt_67 (lX5_leastHurt_18 mm n) mm x2 x3 x4 x5) else (jX5_leastHurt_67 (lX5_leastHurt_18 mm n) mm x2 x5 r8 x5))))))) := rfl
noncomputable def fX5_leastHurt (x1 : Int32) (mm : gM) : Option (Int32) := bnd (fX2_failing 0 x1 mm) (fun r2 => lX5_leastHurt_18 mm FU r2 17 (-1) 0)
abbrev rm_X5_leastHurt : Room := { frames := 1, cells := 0, slots := 0, locals := 21 }
noncomputable def jX5_litShare_27 (mm : gM) (s0 : UInt64) : Option (UInt64) := some s0
noncomputable def fX5_litShare (mm : gM) : Option (UInt64) := bnd (fX2_roundTicks 0 mm) (fun r2 => if r2 ≤ 0 then (jX5_litShare_27 mm FP.dconst0) else (bnd (fX2_litTicks 0 mm) (fun r5 => chk (vf_n64 (FP.ddiv (FP.i2d r5) (FP.i2d r2))) (jX5_litShare_27 mm (FP.ddiv (FP.i2d r5) (FP.i2d r2))))))
abbrev rm_X5_litShare : Room := { frames := 2, cells := 0, slots := 0, locals := 43 }
noncomputable def jX5_meanBrightness_64 (s0 : UInt32) (mm : gM) : Option (UInt32 × gM) := some (s0, mm)
noncomputable def jX5_meanBrightness_51 (x1 : Int32) (x2 : Int32) (mm : gM) : Option (UInt32 × gM) := if x2 ≤ 0 then (jX5_meanBrightness_64 FP.fconst0 mm) else (chk (vf_n32 (FP.fdiv (FP.i2f x1) (FP.i2f x2))) (jX5_meanBrightness_64 (FP.fdiv (FP.i2f x1) (FP.i2f x2)) mm))
noncomputable def jX5_meanBrightness_45 (k6 : Int32 → Int32 → Int32 → gM → Option (UInt32 × gM)) (x1 : Int32) (x2 : Int32) (x3 : Int32) (mm : gM) : Option (UInt32 × gM) := k6 x1 x2 (x3 + 1) mm
noncomputable def lX5_meanBrightness_6 : Nat → Int32 → Int32 → Int32 → gM → Option (UInt32 × gM)
  | 0, _, _, _, _ => none
  | n + 1, x1, x2, x3, mm => if 6 ≤ x3 then (jX5_meanBrightness_51 x1 x2 mm) else (bnd (fX2_works 0 x3 mm) (fun r2 => if r2 = 0 then (jX5_meanBrightness_45 (lX5_meanBrightness_6 n) x1 x2 x3 mm) else (bnd (fX1_look 0 x3 mm) (fun m6 => bnd (fX1_mean 0 x3 m6) (fun r8 => jX5_meanBrightness_45 (lX5_meanBrightness_6 n) (x1 + r8) (x2 + 1) x3 m6)))))
theorem lX5_meanBrightness_6_s (n : Nat) (x1 : Int32) (x2 : Int32) (x3 : Int32) (mm : gM) : lX5_meanBrightness_6 (n + 1) x1 x2 x3 mm = if 6 ≤ x3 then (jX5_meanBrightness_51 x1 x2 mm) else (bnd (fX2_works 0 x3 mm) (fun r2 => if r2 = 0 then (jX5_meanBrightness_45 (lX5_meanBrightness_6 n) x1 x2 x3 mm) else (bnd (fX1_look 0 x3 mm) (fun m6 => bnd (fX1_mean 0 x3 m6) (fun r8 => jX5_meanBrightness_45 (lX5_meanBrightness_6 n) (x1 + r8) (x2 + 1) x3 m6))))) := rfl
noncomputable def fX5_meanBrightness (mm : gM) : Option (UInt32 × gM) := lX5_meanBrightness_6 FU 0 0 0 mm
abbrev rm_X5_meanBrightness : Room := { frames := 4, cells := 0, slots := 0, locals := 98 }
noncomputable def jX5_hashWithSlot_86 (x3 : Int32) (x4 : Int64) (mm : gM) : Option (Int64 × gM) := bnd (fX5_alikeSigns x3 mm) (fun r7 => bnd (fX5_lowestAlike x3 mm) (fun r10 => bn2 (fX5_timeIfBalanced 20 x3 mm) (fun r13 m14 => bnd (fX5_leastHurt x3 m14) (fun r16 => some ((31 * ((31 * ((31 * ((31 * x4) + r7.toInt64)) + r10.toInt64)) + r13.toInt64)) + r16.toInt64, m14)))))
noncomputable def jX5_hashWithSlot_80 (k39 : Int32 → Int64 → Int32 → gM → Option (Int64 × gM)) (x3 : Int32) (x4 : Int64) (x6 : Int32) (mm : gM) : Option (Int64 × gM) := k39 x3 x4 (x6 + 1) mm
noncomputable def lX5_hashWithSlot_49 (k39 : Int32 → Int64 → Int32 → gM → Option (Int64 × gM)) : Nat → Int32 → Int64 → Int32 → Int32 → gM → Option (Int64 × gM)
  | 0, _, _, _, _, _ => none
  | n + 1, x3, x4, x6, x7, mm => if 4 ≤ x7 then (jX5_hashWithSlot_80 k39 x3 x4 x6 mm) else (bn2 (fX5_segmentProperty x3 x6 x7 mm) (fun r19 m20 => (lX5_hashWithSlot_49 k39 n) x3 ((31 * x4) + r19.toInt64) x6 (x7 + 1) m20))
theorem lX5_hashWithSlot_49_s (k39 : Int32 → Int64 → Int32 → gM → Option (Int64 × gM)) (n : Nat) (x3 : Int32) (x4 : Int64) (x6 : Int32) (x7 : Int32) (mm : gM) : lX5_hashWithSlot_49 k39 (n + 1) x3 x4 x6 x7 mm = if 4 ≤ x7 then (jX5_hashWithSlot_80 k39 x3 x4 x6 mm) else (bn2 (fX5_segmentProperty x3 x6 x7 mm) (fun r19 m20 => (lX5_hashWithSlot_49 k39 n) x3 ((31 * x4) + r19.toInt64) x6 (x7 + 1) m20)) := rfl
noncomputable def lX5_hashWithSlot_39 : Nat → Int32 → Int64 → Int32 → gM → Option (Int64 × gM)
  | 0, _, _, _, _ => none
  | n + 1, x3, x4, x6, mm => if 8 ≤ x6 then (jX5_hashWithSlot_86 x3 x4 mm) else (lX5_hashWithSlot_49 (lX5_hashWithSlot_39 n) FU x3 x4 x6 0 mm)
theorem lX5_hashWithSlot_39_s (n : Nat) (x3 : Int32) (x4 : Int64) (x6 : Int32) (mm : gM) : lX5_hashWithSlot_39 (n + 1) x3 x4 x6 mm = if 8 ≤ x6 then (jX5_hashWithSlot_86 x3 x4 mm) else (lX5_hashWithSlot_49 (lX5_hashWithSlot_39 n) FU x3 x4 x6 0 mm) := rfl
noncomputable def jX5_hashWithSlot_36 (x3 : Int32) (x4 : Int64) (mm : gM) : Option (Int64 × gM) := lX5_hashWithSlot_39 FU x3 x4 0 mm
noncomputable def lX5_hashWithSlot_6 : Nat → Int32 → Int64 → Int32 → gM → Option (Int64 × gM)
  | 0, _, _, _, _ => none
  | n + 1, x3, x4, x6, mm => if 10 ≤ x6 then (jX5_hashWithSlot_36 x3 x4 mm) else (bn2 (fX5_slotProperty x3 x6 mm) (fun r2 m3 => (lX5_hashWithSlot_6 n) x3 ((31 * x4) + r2.toInt64) (x6 + 1) m3))
theorem lX5_hashWithSlot_6_s (n : Nat) (x3 : Int32) (x4 : Int64) (x6 : Int32) (mm : gM) : lX5_hashWithSlot_6 (n + 1) x3 x4 x6 mm = if 10 ≤ x6 then (jX5_hashWithSlot_36 x3 x4 mm) else (bn2 (fX5_slotProperty x3 x6 mm) (fun r2 m3 => (lX5_hashWithSlot_6 n) x3 ((31 * x4) + r2.toInt64) (x6 + 1) m3)) := rfl
noncomputable def fX5_hashWithSlot (x1 : Int64) (x3 : Int32) (mm : gM) : Option (Int64 × gM) := lX5_hashWithSlot_6 FU x3 x1 0 mm
abbrev rm_X5_hashWithSlot : Room := { frames := 5, cells := 0, slots := 0, locals := 122 }
noncomputable def jX5_bitsOf_89 (x3 : Int32) (x4 : Int64) (x6 : UInt64) : Option (Int64) := chk (vf_n64 (FP.dsub x6 FP.dconst1)) (chk (vf_n64 (FP.dmul (FP.dsub x6 FP.dconst1) (FP.l2d (lsh 1 x3)))) (some ((lsh x4 x3) + (FP.d2l (FP.dmul (FP.dsub x6 FP.dconst1) (FP.l2d (lsh 1 x3)))))))
noncomputable def lX5_bitsOf_56 : Nat → Int32 → Int32 → Int64 → UInt64 → Int32 → Option (Int64)
  | 0, _, _, _, _, _ => none
  | n + 1, x2, x3, x4, x6, x8 => if x2 ≤ x8 then (jX5_bitsOf_89 x3 x4 x6) else (if 0 ≤ (Op.cmpValue (FP.dcmp x6 FP.dconst1) .g) then (jX5_bitsOf_89 x3 x4 x6) else (chk (vf_n64 (FP.dmul x6 4611686018427387904)) ((lX5_bitsOf_56 n) x2 x3 (x4 - 1) (FP.dmul x6 4611686018427387904) (x8 + 1))))
theorem lX5_bitsOf_56_s (n : Nat) (x2 : Int32) (x3 : Int32) (x4 : Int64) (x6 : UInt64) (x8 : Int32) : lX5_bitsOf_56 (n + 1) x2 x3 x4 x6 x8 = if x2 ≤ x8 then (jX5_bitsOf_89 x3 x4 x6) else (if 0 ≤ (Op.cmpValue (FP.dcmp x6 FP.dconst1) .g) then (jX5_bitsOf_89 x3 x4 x6) else (chk (vf_n64 (FP.dmul x6 4611686018427387904)) ((lX5_bitsOf_56 n) x2 x3 (x4 - 1) (FP.dmul x6 4611686018427387904) (x8 + 1)))) := rfl
noncomputable def jX5_bitsOf_53 (x2 : Int32) (x3 : Int32) (x4 : Int64) (x6 : UInt64) : Option (Int64) := lX5_bitsOf_56 FU x2 x3 x4 x6 0
noncomputable def lX5_bitsOf_18 : Nat → Int32 → Int32 → Int64 → UInt64 → Int32 → Option (Int64)
  | 0, _, _, _, _, _ => none
  | n + 1, x2, x3, x4, x6, x8 => if x2 ≤ x8 then (jX5_bitsOf_53 x2 x3 x4 x6) else (if (Op.cmpValue (FP.dcmp x6 4611686018427387904) .l) < 0 then (jX5_bitsOf_53 x2 x3 x4 x6) else (chk (vf_n64 (FP.ddiv x6 4611686018427387904)) ((lX5_bitsOf_18 n) x2 x3 (x4 + 1) (FP.ddiv x6 4611686018427387904) (x8 + 1))))
theorem lX5_bitsOf_18_s (n : Nat) (x2 : Int32) (x3 : Int32) (x4 : Int64) (x6 : UInt64) (x8 : Int32) : lX5_bitsOf_18 (n + 1) x2 x3 x4 x6 x8 = if x2 ≤ x8 then (jX5_bitsOf_53 x2 x3 x4 x6) else (if (Op.cmpValue (FP.dcmp x6 4611686018427387904) .l) < 0 then (jX5_bitsOf_53 x2 x3 x4 x6) else (chk (vf_n64 (FP.ddiv x6 4611686018427387904)) ((lX5_bitsOf_18 n) x2 x3 (x4 + 1) (FP.ddiv x6 4611686018427387904) (x8 + 1)))) := rfl
noncomputable def fX5_bitsOf (x0 : UInt64) (x2 : Int32) (x3 : Int32) : Option (Int64) := if 0 < (Op.cmpValue (FP.dcmp x0 FP.dconst0) .g) then (lX5_bitsOf_18 FU x2 x3 x2.toInt64 x0 0) else (some (0 : Int64))
abbrev rm_X5_bitsOf : Room := { frames := 0, cells := 0, slots := 0, locals := 0 }
noncomputable def jX5_digest_226 (x1 : Int64) (mm : gM) : Option (Int64 × gM) := some (x1, mm)
noncomputable def lX5_digest_186 : Nat → Int64 → Int32 → gM → Option (Int64 × gM)
  | 0, _, _, _ => none
  | n + 1, x1, x3, mm => if 12 ≤ x3 then (jX5_digest_226 x1 mm) else (if (gi mm 16 0 1) ≤ x3 then (jX5_digest_226 x1 mm) else (chk (vp_in x3 12) ((lX5_digest_186 n) ((31 * x1) + ((gi mm 17 0 x3.toNatClampNeg).toInt64)) (x3 + 1) mm)))
theorem lX5_digest_186_s (n : Nat) (x1 : Int64) (x3 : Int32) (mm : gM) : lX5_digest_186 (n + 1) x1 x3 mm = if 12 ≤ x3 then (jX5_digest_226 x1 mm) else (if (gi mm 16 0 1) ≤ x3 then (jX5_digest_226 x1 mm) else (chk (vp_in x3 12) ((lX5_digest_186 n) ((31 * x1) + ((gi mm 17 0 x3.toNatClampNeg).toInt64)) (x3 + 1) mm))) := rfl
noncomputable def jX5_digest_169 (x1 : Int64) (mm : gM) : Option (Int64 × gM) := lX5_digest_186 FU ((31 * x1) + ((gi mm 16 0 1).toInt64)) 0 mm
noncomputable def jX5_digest_160 (k136 : Int64 → Int32 → gM → Option (Int64 × gM)) (x3 : Int32) (s0 : Int64) (s1 : Int32) (mm : gM) : Option (Int64 × gM) := k136 (s0 + s1.toInt64) (x3 + 1) mm
noncomputable def lX5_digest_136 : Nat → Int64 → Int32 → gM → Option (Int64 × gM)
  | 0, _, _, _ => none
  | n + 1, x1, x3, mm => if 2 ≤ x3 then (jX5_digest_169 x1 mm) else (chk (vp_in x3 2) (if (gi mm 19 0 x3.toNatClampNeg) = 0 then (jX5_digest_160 (lX5_digest_136 n) x3 (31 * x1) 0 mm) else (jX5_digest_160 (lX5_digest_136 n) x3 (31 * x1) 1 mm)))
theorem lX5_digest_136_s (n : Nat) (x1 : Int64) (x3 : Int32) (mm : gM) : lX5_digest_136 (n + 1) x1 x3 mm = if 2 ≤ x3 then (jX5_digest_169 x1 mm) else (chk (vp_in x3 2) (if (gi mm 19 0 x3.toNatClampNeg) = 0 then (jX5_digest_160 (lX5_digest_136 n) x3 (31 * x1) 0 mm) else (jX5_digest_160 (lX5_digest_136 n) x3 (31 * x1) 1 mm))) := rfl
noncomputable def jX5_digest_82 (x1 : Int64) (mm : gM) : Option (Int64 × gM) := bn2 (fX5_meanIfTimed 0 5 mm) (fun r12 m13 => bnd (fX5_litShare m13) (fun r15 => bnd (fX5_bitsOf r15 1023 52) (fun r18 => bn2 (fX5_meanBrightness m13) (fun r21 m22 => chk (vf_n64 (FP.f2d r21)) (bnd (fX5_bitsOf (FP.f2d r21) 127 23) (fun r25 => lX5_digest_136 FU ((31 * ((31 * ((31 * x1) + r12.toInt64)) + r18)) + r25) 0 m22))))))
noncomputable def lX5_digest_63 : Nat → Int64 → Int32 → gM → Option (Int64 × gM)
  | 0, _, _, _ => none
  | n + 1, x1, x3, mm => if 6 ≤ x3 then (jX5_digest_82 x1 mm) else (bn2 (fX5_hashWithSlot x1 x3 mm) (fun r8 m9 => (lX5_digest_63 n) r8 (x3 + 1) m9))
theorem lX5_digest_63_s (n : Nat) (x1 : Int64) (x3 : Int32) (mm : gM) : lX5_digest_63 (n + 1) x1 x3 mm = if 6 ≤ x3 then (jX5_digest_82 x1 mm) else (bn2 (fX5_hashWithSlot x1 x3 mm) (fun r8 m9 => (lX5_digest_63 n) r8 (x3 + 1) m9)) := rfl
noncomputable def jX5_digest_61 (x1 : Int64) (mm : gM) : Option (Int64 × gM) := lX5_digest_63 FU x1 0 mm
noncomputable def lX5_digest_33 : Nat → Int64 → Int32 → gM → Option (Int64 × gM)
  | 0, _, _, _ => none
  | n + 1, x1, x3, mm => if 4 ≤ x3 then (jX5_digest_61 x1 mm) else (chk (vp_in x3 4) ((lX5_digest_33 n) ((31 * x1) + ((gi mm 5 0 x3.toNatClampNeg).toInt64)) (x3 + 1) mm))
theorem lX5_digest_33_s (n : Nat) (x1 : Int64) (x3 : Int32) (mm : gM) : lX5_digest_33 (n + 1) x1 x3 mm = if 4 ≤ x3 then (jX5_digest_61 x1 mm) else (chk (vp_in x3 4) ((lX5_digest_33 n) ((31 * x1) + ((gi mm 5 0 x3.toNatClampNeg).toInt64)) (x3 + 1) mm)) := rfl
noncomputable def jX5_digest_31 (x1 : Int64) (mm : gM) : Option (Int64 × gM) := lX5_digest_33 FU x1 0 mm
noncomputable def lX5_digest_6 : Nat → Int64 → Int32 → gM → Option (Int64 × gM)
  | 0, _, _, _ => none
  | n + 1, x1, x3, mm => if 13 ≤ x3 then (jX5_digest_31 x1 mm) else (bn2 (fX5_number x3 mm) (fun r2 m3 => (lX5_digest_6 n) ((31 * x1) + r2.toInt64) (x3 + 1) m3))
theorem lX5_digest_6_s (n : Nat) (x1 : Int64) (x3 : Int32) (mm : gM) : lX5_digest_6 (n + 1) x1 x3 mm = if 13 ≤ x3 then (jX5_digest_31 x1 mm) else (bn2 (fX5_number x3 mm) (fun r2 m3 => (lX5_digest_6 n) ((31 * x1) + r2.toInt64) (x3 + 1) m3)) := rfl
noncomputable def fX5_digest (mm : gM) : Option (Int64 × gM) := lX5_digest_6 FU 3347 0 mm
abbrev rm_X5_digest : Room := { frames := 6, cells := 0, slots := 0, locals := 149 }
noncomputable def fX6_thrown (mm : gM) : Option (Int32) := some (gi mm 21 0 0)
abbrev rm_X6_thrown : Room := { frames := 0, cells := 0, slots := 0, locals := 0 }
noncomputable def jX6_in_14 : Option (Int32) := chk (bz 0) (some (0 : Int32))
noncomputable def fX6_in (x0 : Int32) (x1 : Int32) (x2 : Int32) : Option (Int32) := if x0 < x1 then (jX6_in_14 ) else (if x2 < x0 then (jX6_in_14 ) else (chk (bz 1) (some (1 : Int32))))
abbrev rm_X6_in : Room := { frames := 0, cells := 0, slots := 0, locals := 0 }
noncomputable def fX6_fails (x1 : Int32) (mm : gM) : Option (Int32 × gM) := wth (si mm 21 0 0 x1) (fun m1 => some ((0 : Int32), m1))
abbrev rm_X6_fails : Room := { frames := 0, cells := 0, slots := 0, locals := 0 }
noncomputable def fX6_isSlot (x0 : Int32) : Option (Int32) := bnd (fX6_in x0 0 5) (fun r2 => chk (bz r2) (some r2))
abbrev rm_X6_isSlot : Room := { frames := 1, cells := 0, slots := 0, locals := 22 }
noncomputable def fX6_isSegment (x0 : Int32) : Option (Int32) := bnd (fX6_in x0 0 7) (fun r2 => chk (bz r2) (some r2))
abbrev rm_X6_isSegment : Room := { frames := 1, cells := 0, slots := 0, locals := 22 }
noncomputable def fX6_of (x1 : Int32) (x2 : Int32) (mm : gM) : Option (Int32) := chk (vp_in ((8 + (4 * x1)) + x2) 80) (some (gi mm 22 0 ((8 + (4 * x1)) + x2).toNatClampNeg))
abbrev rm_X6_of : Room := { frames := 0, cells := 0, slots := 0, locals := 0 }
noncomputable def fX6_lay (x1 : Int32) (x2 : Int32) (x3 : Int32) (mm : gM) : Option (gM) := chk (vp_in ((8 + (4 * x1)) + x2) 80) (wth (si mm 22 0 ((8 + (4 * x1)) + x2).toNatClampNeg x3) (fun m2 => some m2))
abbrev rm_X6_lay : Room := { frames := 0, cells := 0, slots := 0, locals := 0 }
noncomputable def lX6_ones_4 : Nat → Int32 → Int32 → Int32 → Option (Int32)
  | 0, _, _, _ => none
  | n + 1, x0, x1, x2 => if 8 ≤ x2 then (some x1) else (wth (x1 + ((x0 >>> (x2 &&& 31)) &&& 1)) (fun v1 => (lX6_ones_4 n) x0 v1 (x2 + 1)))
theorem lX6_ones_4_s (n : Nat) (x0 : Int32) (x1 : Int32) (x2 : Int32) : lX6_ones_4 (n + 1) x0 x1 x2 = if 8 ≤ x2 then (some x1) else (wth (x1 + ((x0 >>> (x2 &&& 31)) &&& 1)) (fun v1 => (lX6_ones_4 n) x0 v1 (x2 + 1))) := rfl
noncomputable def fX6_ones (x0 : Int32) : Option (Int32) := lX6_ones_4 FU x0 0 0
abbrev rm_X6_ones : Room := { frames := 0, cells := 0, slots := 0, locals := 0 }
noncomputable def jX6_saves_83 (mm : gM) : Option (gM) := wth (si mm 21 0 3 ((gi mm 21 0 3) + 1)) (fun m11 => some m11)
noncomputable def lX6_saves_51 : Nat → Int32 → gM → Option (gM)
  | 0, _, _ => none
  | n + 1, x1, mm => if 80 ≤ x1 then (jX6_saves_83 mm) else (chk (vp_in x1 80) (chk (vp_in ((80 * (gi mm 21 0 3)) + x1) 480) (wth (si mm 23 0 ((80 * (gi mm 21 0 3)) + x1).toNatClampNeg (gi mm 22 0 x1.toNatClampNeg)) (fun m8 => (lX6_saves_51 n) (x1 + 1) m8))))
theorem lX6_saves_51_s (n : Nat) (x1 : Int32) (mm : gM) : lX6_saves_51 (n + 1) x1 mm = if 80 ≤ x1 then (jX6_saves_83 mm) else (chk (vp_in x1 80) (chk (vp_in ((80 * (gi mm 21 0 3)) + x1) 480) (wth (si mm 23 0 ((80 * (gi mm 21 0 3)) + x1).toNatClampNeg (gi mm 22 0 x1.toNatClampNeg)) (fun m8 => (lX6_saves_51 n) (x1 + 1) m8)))) := rfl
noncomputable def jX6_saves_49 (mm : gM) : Option (gM) := lX6_saves_51 FU 0 mm
noncomputable def jX6_saves_39 (mm : gM) : Option (gM) := wth (si mm 21 0 3 ((gi mm 21 0 3) - 1)) (fun m10 => jX6_saves_49 m10)
noncomputable def lX6_saves_11 : Nat → Int32 → gM → Option (gM)
  | 0, _, _ => none
  | n + 1, x1, mm => if 400 ≤ x1 then (jX6_saves_39 mm) else (chk (vp_in (x1 + 80) 480) (chk (vp_in x1 480) (wth (si mm 23 0 x1.toNatClampNeg (gi mm 23 0 (x1 + 80).toNatClampNeg)) (fun m4 => (lX6_saves_11 n) (x1 + 1) m4))))
theorem lX6_saves_11_s (n : Nat) (x1 : Int32) (mm : gM) : lX6_saves_11 (n + 1) x1 mm = if 400 ≤ x1 then (jX6_saves_39 mm) else (chk (vp_in (x1 + 80) 480) (chk (vp_in x1 480) (wth (si mm 23 0 x1.toNatClampNeg (gi mm 23 0 (x1 + 80).toNatClampNeg)) (fun m4 => (lX6_saves_11 n) (x1 + 1) m4)))) := rfl
noncomputable def fX6_saves (mm : gM) : Option (gM) := if (gi mm 21 0 3) = 6 then (lX6_saves_11 FU 0 mm) else (jX6_saves_49 mm)
abbrev rm_X6_saves : Room := { frames := 0, cells := 0, slots := 0, locals := 0 }
noncomputable def fX6_segmentsOf (x0 : Int32) : Option (Int32) := if x0 = 0 then (some (63 : Int32)) else (if x0 = 1 then (some (6 : Int32)) else (if x0 = 2 then (some (91 : Int32)) else (if x0 = 3 then (some (79 : Int32)) else (if x0 = 4 then (some (102 : Int32)) else (if x0 = 5 then (some (109 : Int32)) else (if x0 = 6 then (some (125 : Int32)) else (if x0 = 7 then (some (7 : Int32)) else (if x0 = 8 then (some (127 : Int32)) else (if x0 = 9 then (some (111 : Int32)) else (if x0 = 10 then (some (119 : Int32)) else (if x0 = 11 then (some (124 : Int32)) else (if x0 = 12 then (some (57 : Int32)) else (if x0 = 13 then (some (94 : Int32)) else (if x0 = 14 then (some (121 : Int32)) else (if x0 = 15 then (some (113 : Int32)) else (if x0 = 16 then (some (64 : Int32)) else (some (0 : Int32))))))))))))))))))
abbrev rm_X6_segmentsOf : Room := { frames := 0, cells := 0, slots := 0, locals := 0 }
noncomputable def fX6_working (x1 : Int32) (x2 : Int32) (mm : gM) : Option (Int32) := bnd (fX6_of x1 3 mm) (fun r2 => chk (vp_in 4 80) (some ((x2 &&& (r2 ^^^ (-1))) &&& ((gi mm 22 0 (4 : Int32).toNatClampNeg) ^^^ (-1)))))
abbrev rm_X6_working : Room := { frames := 1, cells := 0, slots := 0, locals := 22 }
noncomputable def fX6_works (x1 : Int32) (mm : gM) : Option (Int32) := bnd (fX6_of x1 0 mm) (fun r2 => bnd (fX6_segmentsOf r2) (fun r5 => bnd (fX6_of x1 1 mm) (fun r8 => bnd (fX6_working x1 (r5 + (128 * r8)) mm) (fun r11 => some r11))))
abbrev rm_X6_works : Room := { frames := 2, cells := 0, slots := 0, locals := 44 }
noncomputable def fX6_light (x1 : Int32) (mm : gM) : Option (Int32) := bnd (fX6_works x1 mm) (fun r2 => bnd (fX6_ones r2) (fun r5 => if r5 = 0 then (some (0 : Int32)) else (chk (vp_in 1 80) (chk (¬ r5 = 0) (some ((gi mm 22 0 (1 : Int32).toNatClampNeg) / r5))))))
abbrev rm_X6_light : Room := { frames := 3, cells := 0, slots := 0, locals := 65 }
noncomputable def fX6_lengthOf (x1 : Int32) (mm : gM) : Option (Int32) := bnd (fX6_of x1 2 mm) (fun r2 => if r2 = 0 then (some (0 : Int32)) else (chk (vp_in 0 80) (bnd (fX6_of x1 2 mm) (fun r6 => some ((gi mm 22 0 (0 : Int32).toNatClampNeg) + r6)))))
abbrev rm_X6_lengthOf : Room := { frames := 1, cells := 0, slots := 0, locals := 22 }
noncomputable def lX6_roundTicks_4 (mm : gM) : Nat → Int32 → Int32 → Option (Int32)
  | 0, _, _ => none
  | n + 1, x1, x2 => if 6 ≤ x2 then (some x1) else (bnd (fX6_lengthOf x2 mm) (fun r2 => (lX6_roundTicks_4 mm n) (x1 + r2) (x2 + 1)))
theorem lX6_roundTicks_4_s (mm : gM) (n : Nat) (x1 : Int32) (x2 : Int32) : lX6_roundTicks_4 mm (n + 1) x1 x2 = if 6 ≤ x2 then (some x1) else (bnd (fX6_lengthOf x2 mm) (fun r2 => (lX6_roundTicks_4 mm n) (x1 + r2) (x2 + 1))) := rfl
noncomputable def fX6_roundTicks (mm : gM) : Option (Int32) := lX6_roundTicks_4 mm FU 0 0
abbrev rm_X6_roundTicks : Room := { frames := 2, cells := 0, slots := 0, locals := 43 }
noncomputable def jX6_slotAt_27 (mm : gM) (x2 : Int32) (x3 : Int32) : Option (Int32) := some ((100 * x2) + x3)
noncomputable def lX6_slotAt_4 (mm : gM) : Nat → Int32 → Int32 → Option (Int32)
  | 0, _, _ => none
  | n + 1, x2, x3 => bnd (fX6_lengthOf x2 mm) (fun r2 => if x3 < r2 then (jX6_slotAt_27 mm x2 x3) else (bnd (fX6_lengthOf x2 mm) (fun r5 => (lX6_slotAt_4 mm n) (x2 + 1) (x3 - r5))))
theorem lX6_slotAt_4_s (mm : gM) (n : Nat) (x2 : Int32) (x3 : Int32) : lX6_slotAt_4 mm (n + 1) x2 x3 = bnd (fX6_lengthOf x2 mm) (fun r2 => if x3 < r2 then (jX6_slotAt_27 mm x2 x3) else (bnd (fX6_lengthOf x2 mm) (fun r5 => (lX6_slotAt_4 mm n) (x2 + 1) (x3 - r5)))) := rfl
noncomputable def fX6_slotAt (x1 : Int32) (mm : gM) : Option (Int32) := lX6_slotAt_4 mm FU 0 x1
abbrev rm_X6_slotAt : Room := { frames := 2, cells := 0, slots := 0, locals := 43 }
noncomputable def jX6_slotAhead_37 (mm : gM) (x2 : Int32) : Option (Int32) := some x2
noncomputable def lX6_slotAhead_10 (mm : gM) : Nat → Int32 → Int32 → Option (Int32)
  | 0, _, _ => none
  | n + 1, x1, x2 => if x2 = x1 then (jX6_slotAhead_37 mm x2) else (bnd (fX6_of x2 2 mm) (fun r3 => if r3 = 0 then (chk (¬ (6 : Int32) = 0) ((lX6_slotAhead_10 mm n) x1 (irm ((x2 + 6) - 1) 6))) else (jX6_slotAhead_37 mm x2)))
theorem lX6_slotAhead_10_s (mm : gM) (n : Nat) (x1 : Int32) (x2 : Int32) : lX6_slotAhead_10 mm (n + 1) x1 x2 = if x2 = x1 then (jX6_slotAhead_37 mm x2) else (bnd (fX6_of x2 2 mm) (fun r3 => if r3 = 0 then (chk (¬ (6 : Int32) = 0) ((lX6_slotAhead_10 mm n) x1 (irm ((x2 + 6) - 1) 6))) else (jX6_slotAhead_37 mm x2))) := rfl
noncomputable def fX6_slotAhead (x1 : Int32) (mm : gM) : Option (Int32) := chk (¬ (6 : Int32) = 0) (lX6_slotAhead_10 mm FU x1 (irm ((x1 + 6) - 1) 6))
abbrev rm_X6_slotAhead : Room := { frames := 1, cells := 0, slots := 0, locals := 22 }
noncomputable def jX6_lightOf_101 (mm : gM) (x4 : Int32) (s0 : Int32) : Option (Int32) := if s0 ≤ x4 then (some x4) else (some s0)
noncomputable def jX6_lightOf_82 (mm : gM) (x4 : Int32) (x5 : Int32) (s0 : Int32) : Option (Int32) := if s0 = 0 then (jX6_lightOf_101 mm x4 0) else (bnd (fX6_light x5 mm) (fun r24 => chk (¬ (4 : Int32) = 0) (jX6_lightOf_101 mm x4 (r24 / 4))))
noncomputable def jX6_lightOf_81 (mm : gM) (x4 : Int32) (x5 : Int32) : Option (Int32) := jX6_lightOf_82 mm x4 x5 0
noncomputable def jX6_lightOf_22 (mm : gM) (x1 : Int32) (x2 : Int32) (x3 : Int32) (s0 : Int32) : Option (Int32) := bnd (fX6_slotAhead x1 mm) (fun r9 => chk (vp_in 0 80) (if (gi mm 22 0 (0 : Int32).toNatClampNeg) = 0 then (if x3 = 0 then (jX6_lightOf_81 mm s0 r9) else (if r9 = x1 then (jX6_lightOf_81 mm s0 r9) else (bnd (fX6_works r9 mm) (fun r13 => if ((r13 >>> (x2 &&& 31)) &&& 1) = 1 then (bnd (fX6_of x1 3 mm) (fun r16 => if ((r16 >>> (x2 &&& 31)) &&& 1) = 0 then (jX6_lightOf_82 mm s0 r9 1) else (jX6_lightOf_81 mm s0 r9))) else (jX6_lightOf_81 mm s0 r9))))) else (jX6_lightOf_81 mm s0 r9)))
noncomputable def fX6_lightOf (x1 : Int32) (x2 : Int32) (x3 : Int32) (mm : gM) : Option (Int32) := bnd (fX6_works x1 mm) (fun r2 => if ((r2 >>> (x2 &&& 31)) &&& 1) = 1 then (bnd (fX6_light x1 mm) (fun r5 => jX6_lightOf_22 mm x1 x2 x3 r5)) else (jX6_lightOf_22 mm x1 x2 x3 0))
abbrev rm_X6_lightOf : Room := { frames := 4, cells := 0, slots := 0, locals := 87 }
noncomputable def fX6_left (x1 : Int32) (mm : gM) : Option (Int32) := chk (vp_in 2 80) (chk (¬ (gi mm 22 0 (2 : Int32).toNatClampNeg) = 0) (wth ((x1 - (x1 / (gi mm 22 0 (2 : Int32).toNatClampNeg))) - 1) (fun v3 => if 0 ≤ v3 then (some v3) else (some (0 : Int32)))))
abbrev rm_X6_left : Room := { frames := 0, cells := 0, slots := 0, locals := 0 }
noncomputable def jX6_ticks_124 (k20 : Int32 → Int32 → Int32 → gM → Option (gM)) (x3 : Int32) (x4 : Int32) (x5 : Int32) (s1 : Int32) (s2 : Int32) (mm : gM) : Option (gM) := chk (vp_in s1 48) (wth (si mm 29 0 s1.toNatClampNeg s2) (fun m24 => k20 x3 x4 (x5 + 1) m24))
noncomputable def jX6_ticks_89 (k20 : Int32 → Int32 → Int32 → gM → Option (gM)) (x3 : Int32) (x4 : Int32) (x5 : Int32) (s0 : Int32) (mm : gM) : Option (gM) := chk (vp_in x5 48) (bnd (fX6_left (gi mm 29 0 x5.toNatClampNeg) mm) (fun r17 => if s0 ≤ r17 then (jX6_ticks_124 k20 x3 x4 x5 x5 r17 mm) else (jX6_ticks_124 k20 x3 x4 x5 x5 s0 mm)))
noncomputable def jX6_ticks_82 (k20 : Int32 → Int32 → Int32 → gM → Option (gM)) (x3 : Int32) (x4 : Int32) (x5 : Int32) (s1 : Int32) (s2 : Int32) (s3 : Int32) (mm : gM) : Option (gM) := bnd (fX6_lightOf s1 s2 s3 mm) (fun r21 => jX6_ticks_89 k20 x3 x4 x5 r21 mm)
noncomputable def jX6_ticks_52 (k20 : Int32 → Int32 → Int32 → gM → Option (gM)) (x3 : Int32) (x4 : Int32) (x5 : Int32) (s0 : Int32) (mm : gM) : Option (gM) := if s0 = 0 then (jX6_ticks_89 k20 x3 x4 x5 0 mm) else (chk (¬ (8 : Int32) = 0) (chk (vp_in 0 80) (if x4 = (gi mm 22 0 (0 : Int32).toNatClampNeg) then (jX6_ticks_82 k20 x3 x4 x5 x3 (irm x5 8) 1 mm) else (jX6_ticks_82 k20 x3 x4 x5 x3 (irm x5 8) 0 mm))))
noncomputable def jX6_ticks_51 (k20 : Int32 → Int32 → Int32 → gM → Option (gM)) (x3 : Int32) (x4 : Int32) (x5 : Int32) (mm : gM) : Option (gM) := jX6_ticks_52 k20 x3 x4 x5 0 mm
noncomputable def lX6_ticks_20 : Nat → Int32 → Int32 → Int32 → gM → Option (gM)
  | 0, _, _, _, _ => none
  | n + 1, x3, x4, x5, mm => if 48 ≤ x5 then (some mm) else (chk (¬ (8 : Int32) = 0) (if (x5 / 8) = x3 then (chk (vp_in 0 80) (if x4 < (gi mm 22 0 (0 : Int32).toNatClampNeg) then (jX6_ticks_51 (lX6_ticks_20 n) x3 x4 x5 mm) else (jX6_ticks_52 (lX6_ticks_20 n) x3 x4 x5 1 mm))) else (jX6_ticks_51 (lX6_ticks_20 n) x3 x4 x5 mm)))
theorem lX6_ticks_20_s (n : Nat) (x3 : Int32) (x4 : Int32) (x5 : Int32) (mm : gM) : lX6_ticks_20 (n + 1) x3 x4 x5 mm = if 48 ≤ x5 then (some mm) else (chk (¬ (8 : Int32) = 0) (if (x5 / 8) = x3 then (chk (vp_in 0 80) (if x4 < (gi mm 22 0 (0 : Int32).toNatClampNeg) then (jX6_ticks_51 (lX6_ticks_20 n) x3 x4 x5 mm) else (jX6_ticks_52 (lX6_ticks_20 n) x3 x4 x5 1 mm))) else (jX6_ticks_51 (lX6_ticks_20 n) x3 x4 x5 mm))) := rfl
noncomputable def fX6_ticks (x1 : Int32) (mm : gM) : Option (gM) := bnd (fX6_slotAt x1 mm) (fun r2 => chk (¬ (100 : Int32) = 0) (chk (¬ (100 : Int32) = 0) (lX6_ticks_20 FU (r2 / 100) (irm r2 100) 0 mm)))
abbrev rm_X6_ticks : Room := { frames := 5, cells := 0, slots := 0, locals := 114 }
noncomputable def lX6_copiesGlows_2 : Nat → Int32 → gM → Option (gM)
  | 0, _, _ => none
  | n + 1, x1, mm => if 48 ≤ x1 then (some mm) else (chk (vp_in (32 + x1) 80) (chk (vp_in x1 48) (wth (si mm 29 0 x1.toNatClampNeg (gi mm 22 0 (32 + x1).toNatClampNeg)) (fun m3 => (lX6_copiesGlows_2 n) (x1 + 1) m3))))
theorem lX6_copiesGlows_2_s (n : Nat) (x1 : Int32) (mm : gM) : lX6_copiesGlows_2 (n + 1) x1 mm = if 48 ≤ x1 then (some mm) else (chk (vp_in (32 + x1) 80) (chk (vp_in x1 48) (wth (si mm 29 0 x1.toNatClampNeg (gi mm 22 0 (32 + x1).toNatClampNeg)) (fun m3 => (lX6_copiesGlows_2 n) (x1 + 1) m3)))) := rfl
noncomputable def fX6_copiesGlows (mm : gM) : Option (gM) := lX6_copiesGlows_2 FU 0 mm
abbrev rm_X6_copiesGlows : Room := { frames := 0, cells := 0, slots := 0, locals := 0 }
noncomputable def jX6_views_195 (k46 : Int32 → Int32 → gM → Option (gM)) (x1 : Int32) (x2 : Int32) (mm : gM) : Option (gM) := k46 x1 (x2 + 1) mm
noncomputable def jX6_views_188 (k46 : Int32 → Int32 → gM → Option (gM)) (k71 : Int32 → Int32 → Int32 → Int32 → gM → Option (gM)) (x1 : Int32) (x2 : Int32) (x3 : Int32) (x4 : Int32) (s1 : Int32) (s2 : Int32) (mm : gM) : Option (gM) := chk (vp_in s1 48) (wth (si mm 32 0 s1.toNatClampNeg s2) (fun m40 => k71 x1 x2 x3 (x4 + 1) m40))
noncomputable def jX6_views_171 (k46 : Int32 → Int32 → gM → Option (gM)) (k71 : Int32 → Int32 → Int32 → Int32 → gM → Option (gM)) (x1 : Int32) (x2 : Int32) (x3 : Int32) (x4 : Int32) (s1 : Int32) (mm : gM) : Option (gM) := chk (vp_in x4 48) (jX6_views_188 k46 k71 x1 x2 x3 x4 s1 (gi mm 29 0 x4.toNatClampNeg) mm)
noncomputable def jX6_views_143 (k46 : Int32 → Int32 → gM → Option (gM)) (k71 : Int32 → Int32 → Int32 → Int32 → gM → Option (gM)) (x1 : Int32) (x2 : Int32) (x3 : Int32) (x4 : Int32) (s1 : Int32) (s2 : Int32) (mm : gM) : Option (gM) := chk (vp_in s1 48) (wth (si mm 31 0 s1.toNatClampNeg s2) (fun m32 => if x3 = 0 then (jX6_views_171 k46 k71 x1 x2 x3 x4 x4 m32) else (chk (vp_in x4 48) (chk (vp_in x4 48) (if (gi m32 32 0 x4.toNatClampNeg) ≤ (gi m32 29 0 x4.toNatClampNeg) then (chk (vp_in x4 48) (jX6_views_188 k46 k71 x1 x2 x3 x4 x4 (gi m32 32 0 x4.toNatClampNeg) m32)) else (jX6_views_171 k46 k71 x1 x2 x3 x4 x4 m32))))))
noncomputable def jX6_views_126 (k46 : Int32 → Int32 → gM → Option (gM)) (k71 : Int32 → Int32 → Int32 → Int32 → gM → Option (gM)) (x1 : Int32) (x2 : Int32) (x3 : Int32) (x4 : Int32) (s1 : Int32) (mm : gM) : Option (gM) := chk (vp_in x4 48) (jX6_views_143 k46 k71 x1 x2 x3 x4 s1 (gi mm 29 0 x4.toNatClampNeg) mm)
noncomputable def lX6_views_71 (k46 : Int32 → Int32 → gM → Option (gM)) : Nat → Int32 → Int32 → Int32 → Int32 → gM → Option (gM)
  | 0, _, _, _, _, _ => none
  | n + 1, x1, x2, x3, x4, mm => if 48 ≤ x4 then (jX6_views_195 k46 x1 x2 mm) else (if x3 < 0 then (jX6_views_195 k46 x1 x2 mm) else (chk (vp_in x4 48) (chk (vp_in x4 48) (chk (vp_in x4 48) (wth (si mm 30 0 x4.toNatClampNeg ((gi mm 30 0 x4.toNatClampNeg) + (gi mm 29 0 x4.toNatClampNeg))) (fun m22 => if x3 = 0 then (jX6_views_126 k46 (lX6_views_71 k46 n) x1 x2 x3 x4 x4 m22) else (chk (vp_in x4 48) (chk (vp_in x4 48) (if (gi m22 29 0 x4.toNatClampNeg) ≤ (gi m22 31 0 x4.toNatClampNeg) then (chk (vp_in x4 48) (jX6_views_143 k46 (lX6_views_71 k46 n) x1 x2 x3 x4 x4 (gi m22 31 0 x4.toNatClampNeg) m22)) else (jX6_views_126 k46 (lX6_views_71 k46 n) x1 x2 x3 x4 x4 m22))))))))))
theorem lX6_views_71_s (k46 : Int32 → Int32 → gM → Option (gM)) (n : Nat) (x1 : Int32) (x2 : Int32) (x3 : Int32) (x4 : Int32) (mm : gM) : lX6_views_71 k46 (n + 1) x1 x2 x3 x4 mm = if 48 ≤ x4 then (jX6_views_195 k46 x1 x2 mm) else (if x3 < 0 then (jX6_views_195 k46 x1 x2 mm) else (chk (vp_in x4 48) (chk (vp_in x4 48) (chk (vp_in x4 48) (wth (si mm 30 0 x4.toNatClampNeg ((gi mm 30 0 x4.toNatClampNeg) + (gi mm 29 0 x4.toNatClampNeg))) (fun m22 => if x3 = 0 then (jX6_views_126 k46 (lX6_views_71 k46 n) x1 x2 x3 x4 x4 m22) else (chk (vp_in x4 48) (chk (vp_in x4 48) (if (gi m22 29 0 x4.toNatClampNeg) ≤ (gi m22 31 0 x4.toNatClampNeg) then (chk (vp_in x4 48) (jX6_views_143 k46 (lX6_views_71 k46 n) x1 x2 x3 x4 x4 (gi m22 31 0 x4.toNatClampNeg) m22)) else (jX6_views_126 k46 (lX6_views_71 k46 n) x1 x2 x3 x4 x4 m22)))))))))) := rfl
noncomputable def lX6_views_46 : Nat → Int32 → Int32 → gM → Option (gM)
  | 0, _, _, _ => none
  | n + 1, x1, x2, mm => if (8 * x1) ≤ x2 then (some mm) else (chk (¬ x1 = 0) (bnd (fX6_ticks (irm x2 x1) mm) (fun m17 => lX6_views_71 (lX6_views_46 n) FU x1 x2 (x2 - (7 * x1)) 0 m17)))
theorem lX6_views_46_s (n : Nat) (x1 : Int32) (x2 : Int32) (mm : gM) : lX6_views_46 (n + 1) x1 x2 mm = if (8 * x1) ≤ x2 then (some mm) else (chk (¬ x1 = 0) (bnd (fX6_ticks (irm x2 x1) mm) (fun m17 => lX6_views_71 (lX6_views_46 n) FU x1 x2 (x2 - (7 * x1)) 0 m17))) := rfl
noncomputable def jX6_views_44 (x1 : Int32) (mm : gM) : Option (gM) := lX6_views_46 FU x1 0 mm
noncomputable def lX6_views_11 : Nat → Int32 → Int32 → gM → Option (gM)
  | 0, _, _, _ => none
  | n + 1, x1, x2, mm => if 48 ≤ x2 then (jX6_views_44 x1 mm) else (chk (vp_in x2 48) (wth (si mm 30 0 x2.toNatClampNeg 0) (fun m8 => chk (vp_in x2 48) (wth (si m8 31 0 x2.toNatClampNeg 0) (fun m10 => chk (vp_in x2 48) (wth (si m10 32 0 x2.toNatClampNeg 0) (fun m12 => (lX6_views_11 n) x1 (x2 + 1) m12)))))))
theorem lX6_views_11_s (n : Nat) (x1 : Int32) (x2 : Int32) (mm : gM) : lX6_views_11 (n + 1) x1 x2 mm = if 48 ≤ x2 then (jX6_views_44 x1 mm) else (chk (vp_in x2 48) (wth (si mm 30 0 x2.toNatClampNeg 0) (fun m8 => chk (vp_in x2 48) (wth (si m8 31 0 x2.toNatClampNeg 0) (fun m10 => chk (vp_in x2 48) (wth (si m10 32 0 x2.toNatClampNeg 0) (fun m12 => (lX6_views_11 n) x1 (x2 + 1) m12))))))) := rfl
noncomputable def fX6_views (mm : gM) : Option (gM) := bnd (fX6_roundTicks mm) (fun r2 => bnd (fX6_copiesGlows mm) (fun m6 => lX6_views_11 FU r2 0 m6))
abbrev rm_X6_views : Room := { frames := 6, cells := 0, slots := 0, locals := 142 }
noncomputable def fX6_brightness (x1 : Int32) (x2 : Int32) (mm : gM) : Option (Int32) := bnd (fX6_roundTicks mm) (fun r2 => if r2 = 0 then (some (0 : Int32)) else (chk (vp_in ((8 * x1) + x2) 48) (chk (¬ r2 = 0) (some ((gi mm 30 0 ((8 * x1) + x2).toNatClampNeg) / r2)))))
abbrev rm_X6_brightness : Room := { frames := 3, cells := 0, slots := 0, locals := 65 }
noncomputable def jX6_seenOf_33 (k4 : Int32 → Int32 → Int32 → Option (Int32)) (mm : gM) (x1 : Int32) (x3 : Int32) (s0 : Int32) (s1 : Int32) : Option (Int32) := k4 x1 (s0 ||| s1) (x3 + 1)
noncomputable def lX6_seenOf_4 (mm : gM) : Nat → Int32 → Int32 → Int32 → Option (Int32)
  | 0, _, _, _ => none
  | n + 1, x1, x2, x3 => if 8 ≤ x3 then (some x2) else (bnd (fX6_brightness x1 x3 mm) (fun r2 => chk (vp_in 3 80) (if r2 < (gi mm 22 0 (3 : Int32).toNatClampNeg) then (jX6_seenOf_33 (lX6_seenOf_4 mm n) mm x1 x3 x2 0) else (jX6_seenOf_33 (lX6_seenOf_4 mm n) mm x1 x3 x2 (1 <<< (x3 &&& 31))))))
theorem lX6_seenOf_4_s (mm : gM) (n : Nat) (x1 : Int32) (x2 : Int32) (x3 : Int32) : lX6_seenOf_4 mm (n + 1) x1 x2 x3 = if 8 ≤ x3 then (some x2) else (bnd (fX6_brightness x1 x3 mm) (fun r2 => chk (vp_in 3 80) (if r2 < (gi mm 22 0 (3 : Int32).toNatClampNeg) then (jX6_seenOf_33 (lX6_seenOf_4 mm n) mm x1 x3 x2 0) else (jX6_seenOf_33 (lX6_seenOf_4 mm n) mm x1 x3 x2 (1 <<< (x3 &&& 31)))))) := rfl
noncomputable def fX6_seenOf (x1 : Int32) (mm : gM) : Option (Int32) := lX6_seenOf_4 mm FU x1 0 0
abbrev rm_X6_seenOf : Room := { frames := 4, cells := 0, slots := 0, locals := 88 }
noncomputable def lX6_readOf_11 (mm : gM) : Nat → Int32 → Int32 → Option (Int32)
  | 0, _, _ => none
  | n + 1, x2, x3 => if 18 ≤ x3 then (some ((-1) : Int32)) else (bnd (fX6_segmentsOf x3) (fun r5 => if r5 = x2 then (some x3) else ((lX6_readOf_11 mm n) x2 (x3 + 1))))
theorem lX6_readOf_11_s (mm : gM) (n : Nat) (x2 : Int32) (x3 : Int32) : lX6_readOf_11 mm (n + 1) x2 x3 = if 18 ≤ x3 then (some ((-1) : Int32)) else (bnd (fX6_segmentsOf x3) (fun r5 => if r5 = x2 then (some x3) else ((lX6_readOf_11 mm n) x2 (x3 + 1)))) := rfl
noncomputable def fX6_readOf (x1 : Int32) (mm : gM) : Option (Int32) := bnd (fX6_seenOf x1 mm) (fun r2 => lX6_readOf_11 mm FU (r2 &&& 127) 0)
abbrev rm_X6_readOf : Room := { frames := 5, cells := 0, slots := 0, locals := 111 }
noncomputable def jX6_meanOf_48 (mm : gM) (x2 : Int32) (x3 : Int32) : Option (Int32) := if x2 = 0 then (some (0 : Int32)) else (bnd (fX6_ones x2) (fun r10 => chk (¬ r10 = 0) (some (x3 / r10))))
noncomputable def jX6_meanOf_40 (k11 : Int32 → Int32 → Int32 → Int32 → Option (Int32)) (mm : gM) (x1 : Int32) (x2 : Int32) (x4 : Int32) (s0 : Int32) (s1 : Int32) : Option (Int32) := k11 x1 x2 (s0 + s1) (x4 + 1)
noncomputable def lX6_meanOf_11 (mm : gM) : Nat → Int32 → Int32 → Int32 → Int32 → Option (Int32)
  | 0, _, _, _, _ => none
  | n + 1, x1, x2, x3, x4 => if 8 ≤ x4 then (jX6_meanOf_48 mm x2 x3) else (if ((x2 >>> (x4 &&& 31)) &&& 1) = 1 then (bnd (fX6_brightness x1 x4 mm) (fun r5 => jX6_meanOf_40 (lX6_meanOf_11 mm n) mm x1 x2 x4 x3 r5)) else (jX6_meanOf_40 (lX6_meanOf_11 mm n) mm x1 x2 x4 x3 0))
theorem lX6_meanOf_11_s (mm : gM) (n : Nat) (x1 : Int32) (x2 : Int32) (x3 : Int32) (x4 : Int32) : lX6_meanOf_11 mm (n + 1) x1 x2 x3 x4 = if 8 ≤ x4 then (jX6_meanOf_48 mm x2 x3) else (if ((x2 >>> (x4 &&& 31)) &&& 1) = 1 then (bnd (fX6_brightness x1 x4 mm) (fun r5 => jX6_meanOf_40 (lX6_meanOf_11 mm n) mm x1 x2 x4 x3 r5)) else (jX6_meanOf_40 (lX6_meanOf_11 mm n) mm x1 x2 x4 x3 0)) := rfl
noncomputable def fX6_meanOf (x1 : Int32) (mm : gM) : Option (Int32) := bnd (fX6_works x1 mm) (fun r2 => lX6_meanOf_11 mm FU x1 r2 0 0)
abbrev rm_X6_meanOf : Room := { frames := 4, cells := 0, slots := 0, locals := 88 }
noncomputable def fX6_show (x1 : Int32) (x2 : Int32) (mm : gM) : Option (Int32 × gM) := wth (si mm 21 0 0 0) (fun m1 => bnd (fX6_isSlot x1) (fun r3 => if r3 = 0 then (bn2 (fX6_fails 1 m1) (fun r22 m23 => some (r22, m23))) else (bnd (fX6_in x2 0 17) (fun r6 => if r6 = 0 then (bn2 (fX6_fails 2 m1) (fun r18 m19 => some (r18, m19))) else (bnd (fX6_saves m1) (fun m10 => bnd (fX6_of x1 0 m10) (fun r12 => bnd (fX6_lay x1 0 x2 m10) (fun m16 => some (r12, m16)))))))))
abbrev rm_X6_show : Room := { frames := 2, cells := 0, slots := 0, locals := 42 }
noncomputable def fX6_dot (x1 : Int32) (mm : gM) : Option (Int32 × gM) := wth (si mm 21 0 0 0) (fun m1 => bnd (fX6_isSlot x1) (fun r3 => if r3 = 0 then (bn2 (fX6_fails 1 m1) (fun r18 m19 => some (r18, m19))) else (bnd (fX6_saves m1) (fun m7 => bnd (fX6_of x1 1 m7) (fun r9 => bnd (fX6_lay x1 1 (1 - r9) m7) (fun m13 => bnd (fX6_of x1 1 m13) (fun r15 => some (r15, m13))))))))
abbrev rm_X6_dot : Room := { frames := 2, cells := 0, slots := 0, locals := 42 }
noncomputable def jX6_burn_19 (mm : gM) : Option (Int32 × gM) := bn2 (fX6_fails 1 mm) (fun r23 m24 => some (r23, m24))
noncomputable def fX6_burn (x1 : Int32) (x2 : Int32) (mm : gM) : Option (Int32 × gM) := wth (si mm 21 0 0 0) (fun m1 => bnd (fX6_isSlot x1) (fun r3 => if r3 = 0 then (jX6_burn_19 m1) else (bnd (fX6_isSegment x2) (fun r6 => if r6 = 0 then (jX6_burn_19 m1) else (bnd (fX6_saves m1) (fun m10 => bnd (fX6_of x1 3 m10) (fun r12 => bnd (fX6_lay x1 3 (r12 ^^^ (1 <<< (x2 &&& 31))) m10) (fun m16 => bnd (fX6_of x1 3 m16) (fun r18 => some ((r18 >>> (x2 &&& 31)) &&& 1, m16))))))))))
abbrev rm_X6_burn : Room := { frames := 2, cells := 0, slots := 0, locals := 42 }
noncomputable def fX6_cut (x1 : Int32) (mm : gM) : Option (Int32 × gM) := wth (si mm 21 0 0 0) (fun m1 => bnd (fX6_isSegment x1) (fun r3 => if r3 = 0 then (bn2 (fX6_fails 1 m1) (fun r13 m14 => some (r13, m14))) else (bnd (fX6_saves m1) (fun m7 => chk (vp_in 4 80) (chk (vp_in 4 80) (wth (si m7 22 0 (4 : Int32).toNatClampNeg ((gi m7 22 0 (4 : Int32).toNatClampNeg) ^^^ (1 <<< (x1 &&& 31)))) (fun m10 => chk (vp_in 4 80) (some (((gi m10 22 0 (4 : Int32).toNatClampNeg) >>> (x1 &&& 31)) &&& 1, m10)))))))))
abbrev rm_X6_cut : Room := { frames := 2, cells := 0, slots := 0, locals := 42 }
noncomputable def fX6_time (x1 : Int32) (x2 : Int32) (mm : gM) : Option (Int32 × gM) := wth (si mm 21 0 0 0) (fun m1 => bnd (fX6_isSlot x1) (fun r3 => if r3 = 0 then (bn2 (fX6_fails 1 m1) (fun r24 m25 => some (r24, m25))) else (bnd (fX6_in x2 0 20) (fun r6 => if r6 = 0 then (bn2 (fX6_fails 2 m1) (fun r20 m21 => some (r20, m21))) else (bnd (fX6_saves m1) (fun m10 => bnd (fX6_of x1 2 m10) (fun r12 => bnd (fX6_lay x1 2 x2 m10) (fun m16 => chk (vp_in 6 80) (wth (si m16 22 0 (6 : Int32).toNatClampNeg 0) (fun m18 => some (r12, m18)))))))))))
abbrev rm_X6_time : Room := { frames := 2, cells := 0, slots := 0, locals := 42 }
noncomputable def jX6_workingSlots_24 (k4 : Int32 → Int32 → Option (Int32)) (mm : gM) (x2 : Int32) (s0 : Int32) (s1 : Int32) : Option (Int32) := k4 (s0 + s1) (x2 + 1)
noncomputable def lX6_workingSlots_4 (mm : gM) : Nat → Int32 → Int32 → Option (Int32)
  | 0, _, _ => none
  | n + 1, x1, x2 => if 6 ≤ x2 then (some x1) else (bnd (fX6_works x2 mm) (fun r2 => if r2 = 0 then (jX6_workingSlots_24 (lX6_workingSlots_4 mm n) mm x2 x1 0) else (jX6_workingSlots_24 (lX6_workingSlots_4 mm n) mm x2 x1 1)))
theorem lX6_workingSlots_4_s (mm : gM) (n : Nat) (x1 : Int32) (x2 : Int32) : lX6_workingSlots_4 mm (n + 1) x1 x2 = if 6 ≤ x2 then (some x1) else (bnd (fX6_works x2 mm) (fun r2 => if r2 = 0 then (jX6_workingSlots_24 (lX6_workingSlots_4 mm n) mm x2 x1 0) else (jX6_workingSlots_24 (lX6_workingSlots_4 mm n) mm x2 x1 1))) := rfl
noncomputable def fX6_workingSlots (mm : gM) : Option (Int32) := lX6_workingSlots_4 mm FU 0 0
abbrev rm_X6_workingSlots : Room := { frames := 3, cells := 0, slots := 0, locals := 65 }
noncomputable def jX6_neediest_95 (k4 : Int32 → Int32 → Option (Int32)) (mm : gM) (x2 : Int32) (s0 : Int32) : Option (Int32) := k4 s0 (x2 + 1)
noncomputable def jX6_neediest_83 (k4 : Int32 → Int32 → Option (Int32)) (mm : gM) (x1 : Int32) (x2 : Int32) (s0 : Int32) : Option (Int32) := if s0 = 0 then (jX6_neediest_95 k4 mm x2 x1) else (jX6_neediest_95 k4 mm x2 x2)
noncomputable def jX6_neediest_82 (k4 : Int32 → Int32 → Option (Int32)) (mm : gM) (x1 : Int32) (x2 : Int32) : Option (Int32) := jX6_neediest_83 k4 mm x1 x2 0
noncomputable def jX6_neediest_78 (k4 : Int32 → Int32 → Option (Int32)) (mm : gM) (x1 : Int32) (x2 : Int32) : Option (Int32) := jX6_neediest_83 k4 mm x1 x2 1
noncomputable def jX6_neediest_35 (k4 : Int32 → Int32 → Option (Int32)) (mm : gM) (x1 : Int32) (x2 : Int32) (s0 : Int32) : Option (Int32) := if s0 = 0 then (jX6_neediest_82 k4 mm x1 x2) else (if x1 = (-1) then (jX6_neediest_78 k4 mm x1 x2) else (chk (vp_in x2 6) (bnd (fX6_works x1 mm) (fun r8 => bnd (fX6_ones r8) (fun r11 => chk (vp_in x1 6) (bnd (fX6_works x2 mm) (fun r15 => bnd (fX6_ones r15) (fun r18 => if ((gi mm 33 0 x1.toNatClampNeg) * r18) ≤ ((gi mm 33 0 x2.toNatClampNeg) * r11) then (jX6_neediest_82 k4 mm x1 x2) else (jX6_neediest_78 k4 mm x1 x2)))))))))
noncomputable def jX6_neediest_34 (k4 : Int32 → Int32 → Option (Int32)) (mm : gM) (x1 : Int32) (x2 : Int32) : Option (Int32) := jX6_neediest_35 k4 mm x1 x2 0
noncomputable def lX6_neediest_4 (mm : gM) : Nat → Int32 → Int32 → Option (Int32)
  | 0, _, _ => none
  | n + 1, x1, x2 => if 6 ≤ x2 then (some x1) else (chk (vp_in x2 6) (if (gi mm 33 0 x2.toNatClampNeg) ≤ 0 then (jX6_neediest_34 (lX6_neediest_4 mm n) mm x1 x2) else (chk (vp_in x2 6) (if 20 ≤ (gi mm 33 0 x2.toNatClampNeg) then (jX6_neediest_34 (lX6_neediest_4 mm n) mm x1 x2) else (jX6_neediest_35 (lX6_neediest_4 mm n) mm x1 x2 1)))))
theorem lX6_neediest_4_s (mm : gM) (n : Nat) (x1 : Int32) (x2 : Int32) : lX6_neediest_4 mm (n + 1) x1 x2 = if 6 ≤ x2 then (some x1) else (chk (vp_in x2 6) (if (gi mm 33 0 x2.toNatClampNeg) ≤ 0 then (jX6_neediest_34 (lX6_neediest_4 mm n) mm x1 x2) else (chk (vp_in x2 6) (if 20 ≤ (gi mm 33 0 x2.toNatClampNeg) then (jX6_neediest_34 (lX6_neediest_4 mm n) mm x1 x2) else (jX6_neediest_35 (lX6_neediest_4 mm n) mm x1 x2 1))))) := rfl
noncomputable def fX6_neediest (mm : gM) : Option (Int32) := lX6_neediest_4 mm FU (-1) 0
abbrev rm_X6_neediest : Room := { frames := 3, cells := 0, slots := 0, locals := 65 }
noncomputable def jX6_gives_80 (x2 : Int32) (mm : gM) : Option (Int32 × gM) := some (x2, mm)
noncomputable def lX6_gives_49 : Nat → Int32 → Int32 → Int32 → gM → Option (Int32 × gM)
  | 0, _, _, _, _ => none
  | n + 1, x1, x2, x3, mm => if x1 ≤ x2 then (jX6_gives_80 x2 mm) else (if x3 = (-1) then (jX6_gives_80 x2 mm) else (chk (vp_in x3 6) (chk (vp_in x3 6) (wth (si mm 33 0 x3.toNatClampNeg ((gi mm 33 0 x3.toNatClampNeg) + 1)) (fun m15 => bnd (fX6_neediest m15) (fun r17 => (lX6_gives_49 n) x1 (x2 + 1) r17 m15))))))
theorem lX6_gives_49_s (n : Nat) (x1 : Int32) (x2 : Int32) (x3 : Int32) (mm : gM) : lX6_gives_49 (n + 1) x1 x2 x3 mm = if x1 ≤ x2 then (jX6_gives_80 x2 mm) else (if x3 = (-1) then (jX6_gives_80 x2 mm) else (chk (vp_in x3 6) (chk (vp_in x3 6) (wth (si mm 33 0 x3.toNatClampNeg ((gi mm 33 0 x3.toNatClampNeg) + 1)) (fun m15 => bnd (fX6_neediest m15) (fun r17 => (lX6_gives_49 n) x1 (x2 + 1) r17 m15)))))) := rfl
noncomputable def jX6_gives_44 (x1 : Int32) (x2 : Int32) (mm : gM) : Option (Int32 × gM) := bnd (fX6_neediest mm) (fun r7 => lX6_gives_49 FU x1 x2 r7 mm)
noncomputable def jX6_gives_28 (k4 : Int32 → Int32 → Int32 → gM → Option (Int32 × gM)) (x1 : Int32) (x2 : Int32) (x3 : Int32) (s1 : Int32) (s2 : Int32) (mm : gM) : Option (Int32 × gM) := chk (vp_in s1 6) (wth (si mm 33 0 s1.toNatClampNeg s2) (fun m10 => chk (vp_in x3 6) (wth (x2 + (gi m10 33 0 x3.toNatClampNeg)) (fun v12 => k4 x1 v12 (x3 + 1) m10))))
noncomputable def lX6_gives_4 : Nat → Int32 → Int32 → Int32 → gM → Option (Int32 × gM)
  | 0, _, _, _, _ => none
  | n + 1, x1, x2, x3, mm => if 6 ≤ x3 then (jX6_gives_44 x1 x2 mm) else (bnd (fX6_works x3 mm) (fun r2 => if r2 = 0 then (jX6_gives_28 (lX6_gives_4 n) x1 x2 x3 x3 0 mm) else (jX6_gives_28 (lX6_gives_4 n) x1 x2 x3 x3 1 mm)))
theorem lX6_gives_4_s (n : Nat) (x1 : Int32) (x2 : Int32) (x3 : Int32) (mm : gM) : lX6_gives_4 (n + 1) x1 x2 x3 mm = if 6 ≤ x3 then (jX6_gives_44 x1 x2 mm) else (bnd (fX6_works x3 mm) (fun r2 => if r2 = 0 then (jX6_gives_28 (lX6_gives_4 n) x1 x2 x3 x3 0 mm) else (jX6_gives_28 (lX6_gives_4 n) x1 x2 x3 x3 1 mm))) := rfl
noncomputable def fX6_gives (x1 : Int32) (mm : gM) : Option (Int32 × gM) := lX6_gives_4 FU x1 0 0 mm
abbrev rm_X6_gives : Room := { frames := 4, cells := 0, slots := 0, locals := 89 }
noncomputable def jX6_balance_71 (x2 : Int32) (mm : gM) : Option (Int32 × gM) := chk (vp_in 6 80) (wth (si mm 22 0 (6 : Int32).toNatClampNeg 0) (fun m28 => some (x2, m28)))
noncomputable def lX6_balance_47 : Nat → Int32 → Int32 → gM → Option (Int32 × gM)
  | 0, _, _, _ => none
  | n + 1, x2, x3, mm => if 6 ≤ x3 then (jX6_balance_71 x2 mm) else (chk (vp_in x3 6) (bnd (fX6_lay x3 2 (gi mm 33 0 x3.toNatClampNeg) mm) (fun m25 => (lX6_balance_47 n) x2 (x3 + 1) m25)))
theorem lX6_balance_47_s (n : Nat) (x2 : Int32) (x3 : Int32) (mm : gM) : lX6_balance_47 (n + 1) x2 x3 mm = if 6 ≤ x3 then (jX6_balance_71 x2 mm) else (chk (vp_in x3 6) (bnd (fX6_lay x3 2 (gi mm 33 0 x3.toNatClampNeg) mm) (fun m25 => (lX6_balance_47 n) x2 (x3 + 1) m25))) := rfl
noncomputable def fX6_balance (x1 : Int32) (mm : gM) : Option (Int32 × gM) := wth (si mm 21 0 0 0) (fun m1 => bnd (fX6_in x1 6 60) (fun r3 => if r3 = 0 then (bn2 (fX6_fails 1 m1) (fun r19 m20 => some (r19, m20))) else (bnd (fX6_workingSlots m1) (fun r6 => if r6 = 0 then (bn2 (fX6_fails 2 m1) (fun r15 m16 => some (r15, m16))) else (bnd (fX6_saves m1) (fun m10 => bn2 (fX6_gives x1 m10) (fun r12 m13 => lX6_balance_47 FU r12 0 m13)))))))
abbrev rm_X6_balance : Room := { frames := 5, cells := 0, slots := 0, locals := 112 }
noncomputable def jX6_set_63 (x1 : Int32) (x2 : Int32) (x3 : Int32) (s0 : Int32) (s1 : Int32) (mm : gM) : Option (Int32 × gM) := bnd (fX6_in s0 s1 x3) (fun r14 => if r14 = 0 then (bn2 (fX6_fails 2 mm) (fun r26 m27 => some (r26, m27))) else (bnd (fX6_saves mm) (fun m18 => chk (vp_in x1 80) (wth (gi m18 22 0 x1.toNatClampNeg) (fun v20 => chk (vp_in x1 80) (wth (si m18 22 0 x1.toNatClampNeg x2) (fun m22 => chk (vp_in 6 80) (wth (si m22 22 0 (6 : Int32).toNatClampNeg 0) (fun m24 => some (v20, m24))))))))))
noncomputable def jX6_set_52 (x1 : Int32) (x2 : Int32) (s0 : Int32) (mm : gM) : Option (Int32 × gM) := if x1 = 0 then (jX6_set_63 x1 x2 s0 x2 0 mm) else (jX6_set_63 x1 x2 s0 x2 1 mm)
noncomputable def fX6_set (x1 : Int32) (x2 : Int32) (mm : gM) : Option (Int32 × gM) := wth (si mm 21 0 0 0) (fun m1 => bnd (fX6_in x1 0 3) (fun r3 => if r3 = 0 then (bn2 (fX6_fails 1 m1) (fun r9 m10 => some (r9, m10))) else (if x1 = 0 then (jX6_set_52 x1 x2 3 m1) else (if x1 = 1 then (jX6_set_52 x1 x2 2000 m1) else (if x1 = 2 then (jX6_set_52 x1 x2 16 m1) else (jX6_set_52 x1 x2 500 m1))))))
abbrev rm_X6_set : Room := { frames := 1, cells := 0, slots := 0, locals := 22 }
noncomputable def jX6_pass_155 (x1 : Int32) (x3 : Int32) (mm : gM) : Option (Int32 × gM) := chk (vp_in 5 80) (chk (vp_in 5 80) (wth (si mm 22 0 (5 : Int32).toNatClampNeg ((gi mm 22 0 (5 : Int32).toNatClampNeg) + x1)) (fun m41 => chk (vp_in 7 80) (chk (vp_in 7 80) (wth (si m41 22 0 (7 : Int32).toNatClampNeg ((gi m41 22 0 (7 : Int32).toNatClampNeg) + x3)) (fun m44 => some (x3, m44)))))))
noncomputable def lX6_pass_125 : Nat → Int32 → Int32 → Int32 → gM → Option (Int32 × gM)
  | 0, _, _, _, _ => none
  | n + 1, x1, x3, x4, mm => if 48 ≤ x4 then (jX6_pass_155 x1 x3 mm) else (chk (vp_in x4 48) (chk (vp_in (32 + x4) 80) (wth (si mm 22 0 (32 + x4).toNatClampNeg (gi mm 29 0 x4.toNatClampNeg)) (fun m37 => (lX6_pass_125 n) x1 x3 (x4 + 1) m37))))
theorem lX6_pass_125_s (n : Nat) (x1 : Int32) (x3 : Int32) (x4 : Int32) (mm : gM) : lX6_pass_125 (n + 1) x1 x3 x4 mm = if 48 ≤ x4 then (jX6_pass_155 x1 x3 mm) else (chk (vp_in x4 48) (chk (vp_in (32 + x4) 80) (wth (si mm 22 0 (32 + x4).toNatClampNeg (gi mm 29 0 x4.toNatClampNeg)) (fun m37 => (lX6_pass_125 n) x1 x3 (x4 + 1) m37)))) := rfl
noncomputable def jX6_pass_122 (x1 : Int32) (x3 : Int32) (mm : gM) : Option (Int32 × gM) := lX6_pass_125 FU x1 x3 0 mm
noncomputable def jX6_pass_114 (k63 : Int32 → Int32 → Int32 → Int32 → gM → Option (Int32 × gM)) (x1 : Int32) (x2 : Int32) (x4 : Int32) (s0 : Int32) (s1 : Int32) (mm : gM) : Option (Int32 × gM) := k63 x1 x2 (s0 + s1) (x4 + 1) mm
noncomputable def lX6_pass_63 : Nat → Int32 → Int32 → Int32 → Int32 → gM → Option (Int32 × gM)
  | 0, _, _, _, _, _ => none
  | n + 1, x1, x2, x3, x4, mm => if x1 ≤ x4 then (jX6_pass_122 x1 x3 mm) else (chk (vp_in 6 80) (bnd (fX6_ticks (gi mm 22 0 (6 : Int32).toNatClampNeg) mm) (fun m27 => chk (vp_in 6 80) (chk (¬ x2 = 0) (chk (vp_in 6 80) (wth (si m27 22 0 (6 : Int32).toNatClampNeg (irm ((gi m27 22 0 (6 : Int32).toNatClampNeg) + 1) x2)) (fun m31 => chk (vp_in 6 80) (if (gi m31 22 0 (6 : Int32).toNatClampNeg) = 0 then (jX6_pass_114 (lX6_pass_63 n) x1 x2 x4 x3 1 m31) else (jX6_pass_114 (lX6_pass_63 n) x1 x2 x4 x3 0 m31)))))))))
theorem lX6_pass_63_s (n : Nat) (x1 : Int32) (x2 : Int32) (x3 : Int32) (x4 : Int32) (mm : gM) : lX6_pass_63 (n + 1) x1 x2 x3 x4 mm = if x1 ≤ x4 then (jX6_pass_122 x1 x3 mm) else (chk (vp_in 6 80) (bnd (fX6_ticks (gi mm 22 0 (6 : Int32).toNatClampNeg) mm) (fun m27 => chk (vp_in 6 80) (chk (¬ x2 = 0) (chk (vp_in 6 80) (wth (si m27 22 0 (6 : Int32).toNatClampNeg (irm ((gi m27 22 0 (6 : Int32).toNatClampNeg) + 1) x2)) (fun m31 => chk (vp_in 6 80) (if (gi m31 22 0 (6 : Int32).toNatClampNeg) = 0 then (jX6_pass_114 (lX6_pass_63 n) x1 x2 x4 x3 1 m31) else (jX6_pass_114 (lX6_pass_63 n) x1 x2 x4 x3 0 m31))))))))) := rfl
noncomputable def jX6_pass_44 (mm : gM) : Option (Int32 × gM) := bn2 (fX6_fails 2 mm) (fun r22 m23 => some (r22, m23))
noncomputable def fX6_pass (x1 : Int32) (mm : gM) : Option (Int32 × gM) := wth (si mm 21 0 0 0) (fun m1 => bnd (fX6_in x1 1 200) (fun r3 => if r3 = 0 then (bn2 (fX6_fails 1 m1) (fun r18 m19 => some (r18, m19))) else (bnd (fX6_roundTicks m1) (fun r6 => if r6 = 0 then (jX6_pass_44 m1) else (chk (vp_in 5 80) (if ((gi m1 22 0 (5 : Int32).toNatClampNeg) + x1) ≤ 99999 then (bnd (fX6_saves m1) (fun m11 => bnd (fX6_copiesGlows m11) (fun m14 => lX6_pass_63 FU x1 r6 0 0 m14))) else (jX6_pass_44 m1)))))))
abbrev rm_X6_pass : Room := { frames := 6, cells := 0, slots := 0, locals := 142 }
noncomputable def fX6_append (x1 : Int32) (mm : gM) : Option (Int32 × gM) := wth (si mm 21 0 0 0) (fun m1 => bnd (fX6_in x1 33 126) (fun r3 => if r3 = 0 then (bn2 (fX6_fails 1 m1) (fun r13 m14 => some (r13, m14))) else (if (gi m1 21 0 7) = 12 then (bn2 (fX6_fails 2 m1) (fun r9 m10 => some (r9, m10))) else (chk (vp_in (gi m1 21 0 7) 12) (wth (si m1 26 0 (gi m1 21 0 7).toNatClampNeg x1) (fun m6 => wth (si m6 21 0 7 ((gi m6 21 0 7) + 1)) (fun m7 => some (gi m7 21 0 7, m7))))))))
abbrev rm_X6_append : Room := { frames := 1, cells := 0, slots := 0, locals := 22 }
noncomputable def fX6_clearBuffer (mm : gM) : Option (Int32 × gM) := wth (si mm 21 0 0 0) (fun m1 => wth (si m1 21 0 7 0) (fun m2 => some (gi m1 21 0 7, m2)))
abbrev rm_X6_clearBuffer : Room := { frames := 0, cells := 0, slots := 0, locals := 0 }
noncomputable def fX6_letter (mm : gM) : Option (Int32) := if (gi mm 21 0 7) ≤ (gi mm 21 0 8) then (some (0 : Int32)) else (chk (vp_in (gi mm 21 0 8) 12) (some (gi mm 26 0 (gi mm 21 0 8).toNatClampNeg)))
abbrev rm_X6_letter : Room := { frames := 0, cells := 0, slots := 0, locals := 0 }
noncomputable def fX6_signOf (x0 : Int32) : Option (Int32) := bnd (fX6_in x0 48 57) (fun r2 => if r2 = 0 then (bnd (fX6_in x0 65 70) (fun r5 => if r5 = 0 then (if x0 = 45 then (some (16 : Int32)) else (if x0 = 95 then (some (17 : Int32)) else (some ((-1) : Int32)))) else (some ((x0 - 65) + 10)))) else (some (x0 - 48)))
abbrev rm_X6_signOf : Room := { frames := 1, cells := 0, slots := 0, locals := 22 }
noncomputable def fX6_letterOf (x0 : Int32) : Option (Int32) := if x0 = (-1) then (some (63 : Int32)) else (if 10 ≤ x0 then (if 16 ≤ x0 then (if x0 = 16 then (some (45 : Int32)) else (some (95 : Int32))) else (some ((65 + x0) - 10))) else (some (48 + x0)))
abbrev rm_X6_letterOf : Room := { frames := 0, cells := 0, slots := 0, locals := 0 }
noncomputable def jX6_readsSign_127 (s1 : Int32) (s2 : Int32) (mm : gM) : Option (gM) := wth (si mm 21 0 12 (s1 + s2)) (fun m25 => some m25)
noncomputable def jX6_readsSign_91 (s1 : Int32) (s2 : Int32) (mm : gM) : Option (gM) := chk (vp_in s1 7) (wth (si mm 28 0 s1.toNatClampNeg s2) (fun m21 => chk (vp_in (gi m21 21 0 12) 7) (wth (si m21 21 0 8 ((gi m21 21 0 8) + (gi m21 28 0 (gi m21 21 0 12).toNatClampNeg))) (fun m23 => if (gi m23 21 0 9) = 0 then (jX6_readsSign_127 (gi m23 21 0 12) 0 m23) else (jX6_readsSign_127 (gi m23 21 0 12) 1 m23)))))
noncomputable def jX6_readsSign_90 (s1 : Int32) (mm : gM) : Option (gM) := jX6_readsSign_91 s1 0 mm
noncomputable def jX6_readsSign_48 (x1 : Int32) (s1 : Int32) (s2 : Int32) (mm : gM) : Option (gM) := wth (si mm 21 0 8 (s1 + s2)) (fun m12 => chk (vp_in (gi m12 21 0 12) 7) (wth (si m12 27 0 (gi m12 21 0 12).toNatClampNeg x1) (fun m14 => if (gi m14 21 0 9) = 0 then (jX6_readsSign_90 (gi m14 21 0 12) m14) else (bnd (fX6_letter m14) (fun r16 => if r16 = 46 then (jX6_readsSign_91 (gi m14 21 0 12) 1 m14) else (jX6_readsSign_90 (gi m14 21 0 12) m14))))))
noncomputable def jX6_readsSign_28 (x1 : Int32) (s1 : Int32) (mm : gM) : Option (gM) := chk (bz s1) (wth (si mm 21 0 9 s1) (fun m9 => if (gi m9 21 0 9) = 0 then (jX6_readsSign_48 x1 (gi m9 21 0 8) 0 m9) else (jX6_readsSign_48 x1 (gi m9 21 0 8) 1 m9)))
noncomputable def jX6_readsSign_27 (x1 : Int32) (mm : gM) : Option (gM) := jX6_readsSign_28 x1 0 mm
noncomputable def fX6_readsSign (mm : gM) : Option (gM) := bnd (fX6_letter mm) (fun r2 => bnd (fX6_signOf r2) (fun r5 => if r5 = (-1) then (jX6_readsSign_27 r5 mm) else (if 6 ≤ (gi mm 21 0 12) then (jX6_readsSign_27 r5 mm) else (jX6_readsSign_28 r5 1 mm))))
abbrev rm_X6_readsSign : Room := { frames := 2, cells := 0, slots := 0, locals := 42 }
noncomputable def lX6_readsAll_14 : Nat → gM → Option (gM)
  | 0, _ => none
  | n + 1, mm => if (gi mm 21 0 9) = 0 then (some mm) else (if (gi mm 21 0 7) ≤ (gi mm 21 0 8) then (some mm) else (bnd (fX6_readsSign mm) (fun m8 => (lX6_readsAll_14 n) m8)))
theorem lX6_readsAll_14_s (n : Nat) (mm : gM) : lX6_readsAll_14 (n + 1) mm = if (gi mm 21 0 9) = 0 then (some mm) else (if (gi mm 21 0 7) ≤ (gi mm 21 0 8) then (some mm) else (bnd (fX6_readsSign mm) (fun m8 => (lX6_readsAll_14 n) m8))) := rfl
noncomputable def fX6_readsAll (mm : gM) : Option (gM) := wth (si mm 21 0 8 0) (fun m1 => wth (si m1 21 0 12 0) (fun m2 => bnd (fX6_readsSign m2) (fun m5 => lX6_readsAll_14 FU m5)))
abbrev rm_X6_readsAll : Room := { frames := 3, cells := 0, slots := 0, locals := 63 }
noncomputable def fX6_firstError (mm : gM) : Option (Int32 × gM) := wth (si mm 21 0 0 0) (fun m1 => bnd (fX6_readsAll m1) (fun m4 => some (gi m4 21 0 8, m4)))
abbrev rm_X6_firstError : Room := { frames := 4, cells := 0, slots := 0, locals := 83 }
noncomputable def jX6_load_85 (k33 : Int32 → gM → Option (Int32 × gM)) (x1 : Int32) (s1 : Int32) (s2 : Int32) (s3 : Int32) (mm : gM) : Option (Int32 × gM) := bnd (fX6_lay s1 s2 s3 mm) (fun m23 => k33 (x1 + 1) m23)
noncomputable def jX6_load_61 (k33 : Int32 → gM → Option (Int32 × gM)) (x1 : Int32) (s1 : Int32) (s2 : Int32) (s3 : Int32) (mm : gM) : Option (Int32 × gM) := bnd (fX6_lay s1 s2 s3 mm) (fun m18 => if (gi m18 21 0 12) ≤ x1 then (jX6_load_85 k33 x1 x1 1 0 m18) else (chk (vp_in x1 7) (jX6_load_85 k33 x1 x1 1 (gi m18 28 0 x1.toNatClampNeg) m18)))
noncomputable def lX6_load_33 : Nat → Int32 → gM → Option (Int32 × gM)
  | 0, _, _ => none
  | n + 1, x1, mm => if 6 ≤ x1 then (some (gi mm 21 0 12, mm)) else (if (gi mm 21 0 12) ≤ x1 then (jX6_load_61 (lX6_load_33 n) x1 x1 0 17 mm) else (chk (vp_in x1 7) (jX6_load_61 (lX6_load_33 n) x1 x1 0 (gi mm 27 0 x1.toNatClampNeg) mm)))
theorem lX6_load_33_s (n : Nat) (x1 : Int32) (mm : gM) : lX6_load_33 (n + 1) x1 mm = if 6 ≤ x1 then (some (gi mm 21 0 12, mm)) else (if (gi mm 21 0 12) ≤ x1 then (jX6_load_61 (lX6_load_33 n) x1 x1 0 17 mm) else (chk (vp_in x1 7) (jX6_load_61 (lX6_load_33 n) x1 x1 0 (gi mm 27 0 x1.toNatClampNeg) mm))) := rfl
noncomputable def fX6_load (mm : gM) : Option (Int32 × gM) := wth (si mm 21 0 0 0) (fun m1 => bnd (fX6_readsAll m1) (fun m4 => if (gi m4 21 0 9) = 0 then (bn2 (fX6_fails 1 m4) (fun r10 m11 => some (r10, m11))) else (bnd (fX6_saves m4) (fun m7 => wth (si m7 21 0 7 0) (fun m8 => lX6_load_33 FU 0 m8)))))
abbrev rm_X6_load : Room := { frames := 4, cells := 0, slots := 0, locals := 83 }
noncomputable def jX6_write_80 (k16 : Int32 → gM → Option (Int32 × gM)) (x1 : Int32) (mm : gM) : Option (Int32 × gM) := k16 (x1 + 1) mm
noncomputable def lX6_write_16 : Nat → Int32 → gM → Option (Int32 × gM)
  | 0, _, _ => none
  | n + 1, x1, mm => if 6 ≤ x1 then (some (gi mm 21 0 7, mm)) else (bnd (fX6_readOf x1 mm) (fun r7 => bnd (fX6_letterOf r7) (fun r10 => chk (vp_in (gi mm 21 0 7) 12) (wth (si mm 26 0 (gi mm 21 0 7).toNatClampNeg r10) (fun m13 => wth (si m13 21 0 7 ((gi m13 21 0 7) + 1)) (fun m14 => bnd (fX6_seenOf x1 m14) (fun r16 => if r16 ≤ 127 then (jX6_write_80 (lX6_write_16 n) x1 m14) else (chk (vp_in (gi m14 21 0 7) 12) (wth (si m14 26 0 (gi m14 21 0 7).toNatClampNeg 46) (fun m19 => wth (si m19 21 0 7 ((gi m19 21 0 7) + 1)) (fun m20 => jX6_write_80 (lX6_write_16 n) x1 m20)))))))))))
theorem lX6_write_16_s (n : Nat) (x1 : Int32) (mm : gM) : lX6_write_16 (n + 1) x1 mm = if 6 ≤ x1 then (some (gi mm 21 0 7, mm)) else (bnd (fX6_readOf x1 mm) (fun r7 => bnd (fX6_letterOf r7) (fun r10 => chk (vp_in (gi mm 21 0 7) 12) (wth (si mm 26 0 (gi mm 21 0 7).toNatClampNeg r10) (fun m13 => wth (si m13 21 0 7 ((gi m13 21 0 7) + 1)) (fun m14 => bnd (fX6_seenOf x1 m14) (fun r16 => if r16 ≤ 127 then (jX6_write_80 (lX6_write_16 n) x1 m14) else (chk (vp_in (gi m14 21 0 7) 12) (wth (si m14 26 0 (gi m14 21 0 7).toNatClampNeg 46) (fun m19 => wth (si m19 21 0 7 ((gi m19 21 0 7) + 1)) (fun m20 => jX6_write_80 (lX6_write_16 n) x1 m20))))))))))) := rfl
noncomputable def fX6_write (mm : gM) : Option (Int32 × gM) := wth (si mm 21 0 0 0) (fun m1 => bnd (fX6_views m1) (fun m4 => wth (si m4 21 0 7 0) (fun m5 => lX6_write_16 FU 0 m5)))
abbrev rm_X6_write : Room := { frames := 7, cells := 0, slots := 0, locals := 166 }
noncomputable def jX6_keep_51 (x1 : Int32) (mm : gM) : Option (Int32 × gM) := chk (vp_in x1 2) (wth (si mm 25 0 x1.toNatClampNeg (vp_nar .boolean 1)) (fun m14 => chk (vp_in 5 80) (some (gi m14 22 0 (5 : Int32).toNatClampNeg, m14))))
noncomputable def lX6_keep_22 : Nat → Int32 → Int32 → gM → Option (Int32 × gM)
  | 0, _, _, _ => none
  | n + 1, x1, x2, mm => if 80 ≤ x2 then (jX6_keep_51 x1 mm) else (chk (vp_in x2 80) (chk (vp_in ((80 * x1) + x2) 160) (wth (si mm 24 0 ((80 * x1) + x2).toNatClampNeg (gi mm 22 0 x2.toNatClampNeg)) (fun m11 => (lX6_keep_22 n) x1 (x2 + 1) m11))))
theorem lX6_keep_22_s (n : Nat) (x1 : Int32) (x2 : Int32) (mm : gM) : lX6_keep_22 (n + 1) x1 x2 mm = if 80 ≤ x2 then (jX6_keep_51 x1 mm) else (chk (vp_in x2 80) (chk (vp_in ((80 * x1) + x2) 160) (wth (si mm 24 0 ((80 * x1) + x2).toNatClampNeg (gi mm 22 0 x2.toNatClampNeg)) (fun m11 => (lX6_keep_22 n) x1 (x2 + 1) m11)))) := rfl
noncomputable def fX6_keep (x1 : Int32) (mm : gM) : Option (Int32 × gM) := wth (si mm 21 0 0 0) (fun m1 => bnd (fX6_in x1 0 1) (fun r3 => if r3 = 0 then (bn2 (fX6_fails 1 m1) (fun r6 m7 => some (r6, m7))) else (lX6_keep_22 FU x1 0 m1)))
abbrev rm_X6_keep : Room := { frames := 1, cells := 0, slots := 0, locals := 22 }
noncomputable def jX6_goBack_70 (mm : gM) : Option (Int32 × gM) := chk (vp_in 5 80) (some (gi mm 22 0 (5 : Int32).toNatClampNeg, mm))
noncomputable def lX6_goBack_41 : Nat → Int32 → Int32 → gM → Option (Int32 × gM)
  | 0, _, _, _ => none
  | n + 1, x1, x2, mm => if 80 ≤ x2 then (jX6_goBack_70 mm) else (chk (vp_in ((80 * x1) + x2) 160) (chk (vp_in x2 80) (wth (si mm 22 0 x2.toNatClampNeg (gi mm 24 0 ((80 * x1) + x2).toNatClampNeg)) (fun m19 => (lX6_goBack_41 n) x1 (x2 + 1) m19))))
theorem lX6_goBack_41_s (n : Nat) (x1 : Int32) (x2 : Int32) (mm : gM) : lX6_goBack_41 (n + 1) x1 x2 mm = if 80 ≤ x2 then (jX6_goBack_70 mm) else (chk (vp_in ((80 * x1) + x2) 160) (chk (vp_in x2 80) (wth (si mm 22 0 x2.toNatClampNeg (gi mm 24 0 ((80 * x1) + x2).toNatClampNeg)) (fun m19 => (lX6_goBack_41 n) x1 (x2 + 1) m19)))) := rfl
noncomputable def fX6_goBack (x1 : Int32) (mm : gM) : Option (Int32 × gM) := wth (si mm 21 0 0 0) (fun m1 => bnd (fX6_in x1 0 1) (fun r3 => if r3 = 0 then (bn2 (fX6_fails 1 m1) (fun r14 m15 => some (r14, m15))) else (chk (vp_in x1 2) (if (gi m1 25 0 x1.toNatClampNeg) = 0 then (bn2 (fX6_fails 2 m1) (fun r10 m11 => some (r10, m11))) else (bnd (fX6_saves m1) (fun m8 => lX6_goBack_41 FU x1 0 m8))))))
abbrev rm_X6_goBack : Room := { frames := 1, cells := 0, slots := 0, locals := 22 }
noncomputable def lX6_undo_30 : Nat → Int32 → gM → Option (Int32 × gM)
  | 0, _, _ => none
  | n + 1, x1, mm => if 80 ≤ x1 then (some (gi mm 21 0 3, mm)) else (chk (vp_in ((80 * (gi mm 21 0 3)) + x1) 480) (chk (vp_in x1 80) (wth (si mm 22 0 x1.toNatClampNeg (gi mm 23 0 ((80 * (gi mm 21 0 3)) + x1).toNatClampNeg)) (fun m9 => (lX6_undo_30 n) (x1 + 1) m9))))
theorem lX6_undo_30_s (n : Nat) (x1 : Int32) (mm : gM) : lX6_undo_30 (n + 1) x1 mm = if 80 ≤ x1 then (some (gi mm 21 0 3, mm)) else (chk (vp_in ((80 * (gi mm 21 0 3)) + x1) 480) (chk (vp_in x1 80) (wth (si mm 22 0 x1.toNatClampNeg (gi mm 23 0 ((80 * (gi mm 21 0 3)) + x1).toNatClampNeg)) (fun m9 => (lX6_undo_30 n) (x1 + 1) m9)))) := rfl
noncomputable def fX6_undo (mm : gM) : Option (Int32 × gM) := wth (si mm 21 0 0 0) (fun m1 => if (gi m1 21 0 3) = 0 then (bn2 (fX6_fails 1 m1) (fun r4 m5 => some (r4, m5))) else (wth (si m1 21 0 3 ((gi m1 21 0 3) - 1)) (fun m2 => lX6_undo_30 FU 0 m2)))
abbrev rm_X6_undo : Room := { frames := 1, cells := 0, slots := 0, locals := 21 }
noncomputable def jX6_isReadWell_53 (mm : gM) : Option (Int32) := chk (bz 0) (some (0 : Int32))
noncomputable def jX6_isReadWell_46 (mm : gM) (s0 : Int32) (s1 : Int32) : Option (Int32) := if s0 = s1 then (chk (bz 1) (some (1 : Int32))) else (jX6_isReadWell_53 mm)
noncomputable def jX6_isReadWell_15 (mm : gM) (x1 : Int32) (s0 : Int32) : Option (Int32) := bnd (fX6_readOf x1 mm) (fun r6 => bnd (fX6_of x1 0 mm) (fun r9 => if r6 = r9 then (bnd (fX6_of x1 1 mm) (fun r12 => if r12 = 1 then (jX6_isReadWell_46 mm s0 1) else (jX6_isReadWell_46 mm s0 0))) else (jX6_isReadWell_53 mm)))
noncomputable def fX6_isReadWell (x1 : Int32) (mm : gM) : Option (Int32) := bnd (fX6_seenOf x1 mm) (fun r2 => if r2 ≤ 127 then (jX6_isReadWell_15 mm x1 0) else (jX6_isReadWell_15 mm x1 1))
abbrev rm_X6_isReadWell : Room := { frames := 6, cells := 0, slots := 0, locals := 134 }
noncomputable def fX6_tellsSlot (x1 : Int32) (x2 : Int32) (mm : gM) : Option (Int32) := if x2 = 4 then (bnd (fX6_works x1 mm) (fun r2 => some r2)) else (if x2 = 5 then (bnd (fX6_light x1 mm) (fun r6 => some r6)) else (if x2 = 6 then (bnd (fX6_seenOf x1 mm) (fun r10 => some r10)) else (if x2 = 7 then (bnd (fX6_readOf x1 mm) (fun r14 => some r14)) else (if x2 = 8 then (bnd (fX6_isReadWell x1 mm) (fun r18 => if r18 = 0 then (some (0 : Int32)) else (some (1 : Int32)))) else (if x2 = 9 then (bnd (fX6_meanOf x1 mm) (fun r23 => some r23)) else (bnd (fX6_of x1 x2 mm) (fun r27 => some r27)))))))
abbrev rm_X6_tellsSlot : Room := { frames := 7, cells := 0, slots := 0, locals := 156 }
noncomputable def fX6_slotOf (x1 : Int32) (x2 : Int32) (mm : gM) : Option (Int32 × gM) := wth (si mm 21 0 0 0) (fun m1 => bnd (fX6_isSlot x1) (fun r3 => if r3 = 0 then (bn2 (fX6_fails 1 m1) (fun r19 m20 => some (r19, m20))) else (bnd (fX6_views m1) (fun m7 => bnd (fX6_in x2 0 9) (fun r9 => if r9 = 0 then (bn2 (fX6_fails 2 m7) (fun r12 m13 => some (r12, m13))) else (bnd (fX6_tellsSlot x1 x2 m7) (fun r15 => some (r15, m7))))))))
abbrev rm_X6_slotOf : Room := { frames := 8, cells := 0, slots := 0, locals := 178 }
noncomputable def fX6_tellsSegment (x1 : Int32) (x2 : Int32) (x3 : Int32) (mm : gM) : Option (Int32) := if x3 = 0 then (chk (vp_in (32 + ((8 * x1) + x2)) 80) (some (gi mm 22 0 (32 + ((8 * x1) + x2)).toNatClampNeg))) else (if x3 = 1 then (bnd (fX6_brightness x1 x2 mm) (fun r5 => some r5)) else (if x3 = 2 then (chk (vp_in ((8 * x1) + x2) 48) (some (gi mm 31 0 ((8 * x1) + x2).toNatClampNeg))) else (chk (vp_in ((8 * x1) + x2) 48) (some (gi mm 32 0 ((8 * x1) + x2).toNatClampNeg)))))
abbrev rm_X6_tellsSegment : Room := { frames := 4, cells := 0, slots := 0, locals := 88 }
noncomputable def jX6_segmentOf_19 (mm : gM) : Option (Int32 × gM) := bn2 (fX6_fails 1 mm) (fun r24 m25 => some (r24, m25))
noncomputable def fX6_segmentOf (x1 : Int32) (x2 : Int32) (x3 : Int32) (mm : gM) : Option (Int32 × gM) := wth (si mm 21 0 0 0) (fun m1 => bnd (fX6_isSlot x1) (fun r3 => if r3 = 0 then (jX6_segmentOf_19 m1) else (bnd (fX6_isSegment x2) (fun r6 => if r6 = 0 then (jX6_segmentOf_19 m1) else (bnd (fX6_views m1) (fun m10 => bnd (fX6_in x3 0 3) (fun r12 => if r12 = 0 then (bn2 (fX6_fails 2 m10) (fun r15 m16 => some (r15, m16))) else (bnd (fX6_tellsSegment x1 x2 x3 m10) (fun r18 => some (r18, m10))))))))))
abbrev rm_X6_segmentOf : Room := { frames := 7, cells := 0, slots := 0, locals := 166 }
noncomputable def fX6_nextLit (mm : gM) : Option (Int32) := bnd (fX6_roundTicks mm) (fun r2 => if r2 = 0 then (some ((-1) : Int32)) else (chk (vp_in 6 80) (bnd (fX6_slotAt (gi mm 22 0 (6 : Int32).toNatClampNeg) mm) (fun r6 => chk (¬ (100 : Int32) = 0) (chk (vp_in 0 80) (if (irm r6 100) < (gi mm 22 0 (0 : Int32).toNatClampNeg) then (some ((-1) : Int32)) else (chk (¬ (100 : Int32) = 0) (some (r6 / 100)))))))))
abbrev rm_X6_nextLit : Room := { frames := 3, cells := 0, slots := 0, locals := 66 }
noncomputable def lX6_allLight_4 (mm : gM) : Nat → Int32 → Int32 → Option (Int32)
  | 0, _, _ => none
  | n + 1, x1, x2 => if 6 ≤ x2 then (some x1) else (bnd (fX6_of x2 2 mm) (fun r2 => bnd (fX6_light x2 mm) (fun r5 => bnd (fX6_works x2 mm) (fun r8 => bnd (fX6_ones r8) (fun r11 => (lX6_allLight_4 mm n) (x1 + ((r2 * r5) * r11)) (x2 + 1))))))
theorem lX6_allLight_4_s (mm : gM) (n : Nat) (x1 : Int32) (x2 : Int32) : lX6_allLight_4 mm (n + 1) x1 x2 = if 6 ≤ x2 then (some x1) else (bnd (fX6_of x2 2 mm) (fun r2 => bnd (fX6_light x2 mm) (fun r5 => bnd (fX6_works x2 mm) (fun r8 => bnd (fX6_ones r8) (fun r11 => (lX6_allLight_4 mm n) (x1 + ((r2 * r5) * r11)) (x2 + 1)))))) := rfl
noncomputable def fX6_allLight (mm : gM) : Option (Int32) := lX6_allLight_4 mm FU 0 0
abbrev rm_X6_allLight : Room := { frames := 4, cells := 0, slots := 0, locals := 87 }
noncomputable def jX6_readWell_30 (k4 : Int32 → Int32 → Option (Int32)) (mm : gM) (x2 : Int32) (s0 : Int32) (s1 : Int32) : Option (Int32) := k4 (s0 + s1) (x2 + 1)
noncomputable def lX6_readWell_4 (mm : gM) : Nat → Int32 → Int32 → Option (Int32)
  | 0, _, _ => none
  | n + 1, x1, x2 => if 6 ≤ x2 then (some x1) else (bnd (fX6_readOf x2 mm) (fun r2 => bnd (fX6_of x2 0 mm) (fun r5 => if r2 = r5 then (jX6_readWell_30 (lX6_readWell_4 mm n) mm x2 x1 1) else (jX6_readWell_30 (lX6_readWell_4 mm n) mm x2 x1 0))))
theorem lX6_readWell_4_s (mm : gM) (n : Nat) (x1 : Int32) (x2 : Int32) : lX6_readWell_4 mm (n + 1) x1 x2 = if 6 ≤ x2 then (some x1) else (bnd (fX6_readOf x2 mm) (fun r2 => bnd (fX6_of x2 0 mm) (fun r5 => if r2 = r5 then (jX6_readWell_30 (lX6_readWell_4 mm n) mm x2 x1 1) else (jX6_readWell_30 (lX6_readWell_4 mm n) mm x2 x1 0)))) := rfl
noncomputable def fX6_readWell (mm : gM) : Option (Int32) := lX6_readWell_4 mm FU 0 0
abbrev rm_X6_readWell : Room := { frames := 6, cells := 0, slots := 0, locals := 134 }
noncomputable def jX6_apart_69 (mm : gM) (x1 : Int32) (x2 : Int32) : Option (Int32) := some (x1 - x2)
noncomputable def jX6_apart_63 (k6 : Int32 → Int32 → Int32 → Option (Int32)) (mm : gM) (x1 : Int32) (x2 : Int32) (x3 : Int32) : Option (Int32) := k6 x1 x2 (x3 + 1)
noncomputable def jX6_apart_62 (k6 : Int32 → Int32 → Int32 → Option (Int32)) (mm : gM) (x1 : Int32) (x3 : Int32) (s0 : Int32) : Option (Int32) := jX6_apart_63 k6 mm x1 s0 x3
noncomputable def jX6_apart_56 (k6 : Int32 → Int32 → Int32 → Option (Int32)) (mm : gM) (x1 : Int32) (x3 : Int32) (x4 : Int32) : Option (Int32) := jX6_apart_62 k6 mm x1 x3 x4
noncomputable def jX6_apart_44 (k6 : Int32 → Int32 → Int32 → Option (Int32)) (mm : gM) (x2 : Int32) (x3 : Int32) (x4 : Int32) (s0 : Int32) : Option (Int32) := if x2 = (-1) then (jX6_apart_56 k6 mm s0 x3 x4) else (if x2 ≤ x4 then (jX6_apart_62 k6 mm s0 x3 x2) else (jX6_apart_56 k6 mm s0 x3 x4))
noncomputable def jX6_apart_38 (k6 : Int32 → Int32 → Int32 → Option (Int32)) (mm : gM) (x2 : Int32) (x3 : Int32) (x4 : Int32) : Option (Int32) := jX6_apart_44 k6 mm x2 x3 x4 x4
noncomputable def lX6_apart_6 (mm : gM) : Nat → Int32 → Int32 → Int32 → Option (Int32)
  | 0, _, _, _ => none
  | n + 1, x1, x2, x3 => if 6 ≤ x3 then (jX6_apart_69 mm x1 x2) else (bnd (fX6_works x3 mm) (fun r2 => if r2 = 0 then (jX6_apart_63 (lX6_apart_6 mm n) mm x1 x2 x3) else (bnd (fX6_meanOf x3 mm) (fun r5 => if x1 = (-1) then (jX6_apart_38 (lX6_apart_6 mm n) mm x2 x3 r5) else (if r5 ≤ x1 then (jX6_apart_44 (lX6_apart_6 mm n) mm x2 x3 r5 x1) else (jX6_apart_38 (lX6_apart_6 mm n) mm x2 x3 r5))))))
theorem lX6_apart_6_s (mm : gM) (n : Nat) (x1 : Int32) (x2 : Int32) (x3 : Int32) : lX6_apart_6 mm (n + 1) x1 x2 x3 = if 6 ≤ x3 then (jX6_apart_69 mm x1 x2) else (bnd (fX6_works x3 mm) (fun r2 => if r2 = 0 then (jX6_apart_63 (lX6_apart_6 mm n) mm x1 x2 x3) else (bnd (fX6_meanOf x3 mm) (fun r5 => if x1 = (-1) then (jX6_apart_38 (lX6_apart_6 mm n) mm x2 x3 r5) else (if r5 ≤ x1 then (jX6_apart_44 (lX6_apart_6 mm n) mm x2 x3 r5 x1) else (jX6_apart_38 (lX6_apart_6 mm n) mm x2 x3 r5)))))) := rfl
noncomputable def fX6_apart (mm : gM) : Option (Int32) := lX6_apart_6 mm FU (-1) (-1) 0
abbrev rm_X6_apart : Room := { frames := 5, cells := 0, slots := 0, locals := 112 }
noncomputable def jX6_flicker_73 (k4 : Int32 → Int32 → Option (Int32)) (mm : gM) (x2 : Int32) (s0 : Int32) : Option (Int32) := k4 s0 (x2 + 1)
noncomputable def jX6_flicker_72 (k4 : Int32 → Int32 → Option (Int32)) (mm : gM) (x1 : Int32) (x2 : Int32) : Option (Int32) := jX6_flicker_73 k4 mm x2 x1
noncomputable def jX6_flicker_34 (k4 : Int32 → Int32 → Option (Int32)) (mm : gM) (x1 : Int32) (x2 : Int32) (s0 : Int32) : Option (Int32) := if s0 = 0 then (jX6_flicker_72 k4 mm x1 x2) else (chk (vp_in x2 48) (chk (vp_in x2 48) (if ((gi mm 31 0 x2.toNatClampNeg) - (gi mm 32 0 x2.toNatClampNeg)) ≤ x1 then (jX6_flicker_72 k4 mm x1 x2) else (chk (vp_in x2 48) (chk (vp_in x2 48) (jX6_flicker_73 k4 mm x2 ((gi mm 31 0 x2.toNatClampNeg) - (gi mm 32 0 x2.toNatClampNeg))))))))
noncomputable def lX6_flicker_4 (mm : gM) : Nat → Int32 → Int32 → Option (Int32)
  | 0, _, _ => none
  | n + 1, x1, x2 => if 48 ≤ x2 then (some x1) else (chk (¬ (8 : Int32) = 0) (bnd (fX6_works (x2 / 8) mm) (fun r3 => chk (¬ (8 : Int32) = 0) (if ((r3 >>> ((irm x2 8) &&& 31)) &&& 1) = 1 then (jX6_flicker_34 (lX6_flicker_4 mm n) mm x1 x2 1) else (jX6_flicker_34 (lX6_flicker_4 mm n) mm x1 x2 0)))))
theorem lX6_flicker_4_s (mm : gM) (n : Nat) (x1 : Int32) (x2 : Int32) : lX6_flicker_4 mm (n + 1) x1 x2 = if 48 ≤ x2 then (some x1) else (chk (¬ (8 : Int32) = 0) (bnd (fX6_works (x2 / 8) mm) (fun r3 => chk (¬ (8 : Int32) = 0) (if ((r3 >>> ((irm x2 8) &&& 31)) &&& 1) = 1 then (jX6_flicker_34 (lX6_flicker_4 mm n) mm x1 x2 1) else (jX6_flicker_34 (lX6_flicker_4 mm n) mm x1 x2 0))))) := rfl
noncomputable def fX6_flicker (mm : gM) : Option (Int32) := lX6_flicker_4 mm FU 0 0
abbrev rm_X6_flicker : Room := { frames := 3, cells := 0, slots := 0, locals := 65 }
noncomputable def fX6_tellsCount (x1 : Int32) (mm : gM) : Option (Int32) := if x1 = 0 then (chk (vp_in 5 80) (some (gi mm 22 0 (5 : Int32).toNatClampNeg))) else (if x1 = 1 then (bnd (fX6_roundTicks mm) (fun r4 => some r4)) else (if x1 = 2 then (chk (vp_in 6 80) (some (gi mm 22 0 (6 : Int32).toNatClampNeg))) else (if x1 = 3 then (bnd (fX6_nextLit mm) (fun r10 => some r10)) else (if x1 = 4 then (chk (vp_in 7 80) (some (gi mm 22 0 (7 : Int32).toNatClampNeg))) else (if x1 = 5 then (bnd (fX6_allLight mm) (fun r16 => some r16)) else (if x1 = 6 then (bnd (fX6_allLight mm) (fun r20 => some r20)) else (if x1 = 7 then (chk (vp_in 4 80) (some (gi mm 22 0 (4 : Int32).toNatClampNeg))) else (if x1 = 8 then (bnd (fX6_workingSlots mm) (fun r26 => some r26)) else (if x1 = 9 then (bnd (fX6_readWell mm) (fun r30 => some r30)) else (if x1 = 10 then (bnd (fX6_apart mm) (fun r34 => some r34)) else (if x1 = 11 then (bnd (fX6_flicker mm) (fun r38 => some r38)) else (some (gi mm 21 0 3)))))))))))))
abbrev rm_X6_tellsCount : Room := { frames := 7, cells := 0, slots := 0, locals := 156 }
noncomputable def fX6_count (x1 : Int32) (mm : gM) : Option (Int32 × gM) := wth (si mm 21 0 0 0) (fun m1 => bnd (fX6_views m1) (fun m4 => bnd (fX6_in x1 0 12) (fun r6 => if r6 = 0 then (bn2 (fX6_fails 1 m4) (fun r9 m10 => some (r9, m10))) else (bnd (fX6_tellsCount x1 m4) (fun r12 => some (r12, m4))))))
abbrev rm_X6_count : Room := { frames := 8, cells := 0, slots := 0, locals := 177 }
noncomputable def fX6_setting (x1 : Int32) (mm : gM) : Option (Int32 × gM) := wth (si mm 21 0 0 0) (fun m1 => bnd (fX6_in x1 0 3) (fun r3 => if r3 = 0 then (bn2 (fX6_fails 1 m1) (fun r6 m7 => some (r6, m7))) else (chk (vp_in x1 80) (some (gi m1 22 0 x1.toNatClampNeg, m1)))))
abbrev rm_X6_setting : Room := { frames := 1, cells := 0, slots := 0, locals := 22 }
noncomputable def jX6_could_86 (mm : gM) (x2 : Int32) (x4 : Int32) (x5 : Int32) : Option (Int32) := if x2 = 0 then (some x4) else (some x5)
noncomputable def jX6_could_78 (k25 : Int32 → Int32 → Int32 → Int32 → Int32 → Int32 → Option (Int32)) (mm : gM) (x1 : Int32) (x2 : Int32) (x3 : Int32) (x4 : Int32) (x6 : Int32) (s0 : Int32) : Option (Int32) := k25 x1 x2 x3 x4 s0 (x6 + (-1))
noncomputable def jX6_could_63 (k25 : Int32 → Int32 → Int32 → Int32 → Int32 → Int32 → Option (Int32)) (mm : gM) (x1 : Int32) (x2 : Int32) (x3 : Int32) (x5 : Int32) (x6 : Int32) (x7 : Int32) (s0 : Int32) (s1 : Int32) : Option (Int32) := if x7 = 0 then (jX6_could_78 k25 mm x1 x2 x3 (s0 + s1) x6 x5) else (jX6_could_78 k25 mm x1 x2 x3 (s0 + s1) x6 x6)
noncomputable def jX6_could_49 (k25 : Int32 → Int32 → Int32 → Int32 → Int32 → Int32 → Option (Int32)) (mm : gM) (x1 : Int32) (x2 : Int32) (x3 : Int32) (x4 : Int32) (x5 : Int32) (x6 : Int32) (s0 : Int32) : Option (Int32) := if s0 = 0 then (jX6_could_63 k25 mm x1 x2 x3 x5 x6 s0 x4 0) else (jX6_could_63 k25 mm x1 x2 x3 x5 x6 s0 x4 1)
noncomputable def lX6_could_25 (mm : gM) : Nat → Int32 → Int32 → Int32 → Int32 → Int32 → Int32 → Option (Int32)
  | 0, _, _, _, _, _, _ => none
  | n + 1, x1, x2, x3, x4, x5, x6 => if x6 < 0 then (jX6_could_86 mm x2 x4 x5) else (bnd (fX6_segmentsOf x6) (fun r11 => bnd (fX6_working x1 r11 mm) (fun r14 => if r14 = x3 then (jX6_could_49 (lX6_could_25 mm n) mm x1 x2 x3 x4 x5 x6 1) else (jX6_could_49 (lX6_could_25 mm n) mm x1 x2 x3 x4 x5 x6 0))))
theorem lX6_could_25_s (mm : gM) (n : Nat) (x1 : Int32) (x2 : Int32) (x3 : Int32) (x4 : Int32) (x5 : Int32) (x6 : Int32) : lX6_could_25 mm (n + 1) x1 x2 x3 x4 x5 x6 = if x6 < 0 then (jX6_could_86 mm x2 x4 x5) else (bnd (fX6_segmentsOf x6) (fun r11 => bnd (fX6_working x1 r11 mm) (fun r14 => if r14 = x3 then (jX6_could_49 (lX6_could_25 mm n) mm x1 x2 x3 x4 x5 x6 1) else (jX6_could_49 (lX6_could_25 mm n) mm x1 x2 x3 x4 x5 x6 0)))) := rfl
noncomputable def fX6_could (x1 : Int32) (x2 : Int32) (mm : gM) : Option (Int32) := bnd (fX6_of x1 0 mm) (fun r2 => bnd (fX6_segmentsOf r2) (fun r5 => bnd (fX6_working x1 r5 mm) (fun r8 => lX6_could_25 mm FU x1 x2 r8 0 (-1) 17)))
abbrev rm_X6_could : Room := { frames := 2, cells := 0, slots := 0, locals := 44 }
noncomputable def fX6_couldBe (x1 : Int32) (x2 : Int32) (mm : gM) : Option (Int32 × gM) := wth (si mm 21 0 0 0) (fun m1 => bnd (fX6_isSlot x1) (fun r3 => if r3 = 0 then (bn2 (fX6_fails 1 m1) (fun r16 m17 => some (r16, m17))) else (bnd (fX6_in x2 0 1) (fun r6 => if r6 = 0 then (bn2 (fX6_fails 2 m1) (fun r9 m10 => some (r9, m10))) else (bnd (fX6_could x1 x2 m1) (fun r12 => some (r12, m1)))))))
abbrev rm_X6_couldBe : Room := { frames := 3, cells := 0, slots := 0, locals := 71 }
noncomputable def fX6_timed (x1 : Int32) (x2 : Int32) (mm : gM) : Option (Int32 × gM) := bnd (fX6_of x1 2 mm) (fun r2 => bnd (fX6_lay x1 2 x2 mm) (fun m6 => bnd (fX6_views m6) (fun m9 => bnd (fX6_meanOf x1 m9) (fun r11 => bnd (fX6_lay x1 2 r2 m9) (fun m15 => some (r11, m15))))))
abbrev rm_X6_timed : Room := { frames := 7, cells := 0, slots := 0, locals := 166 }
noncomputable def fX6_ifTimed (x1 : Int32) (x2 : Int32) (mm : gM) : Option (Int32 × gM) := wth (si mm 21 0 0 0) (fun m1 => bnd (fX6_isSlot x1) (fun r3 => if r3 = 0 then (bn2 (fX6_fails 1 m1) (fun r16 m17 => some (r16, m17))) else (bnd (fX6_in x2 0 20) (fun r6 => if r6 = 0 then (bn2 (fX6_fails 2 m1) (fun r9 m10 => some (r9, m10))) else (bn2 (fX6_timed x1 x2 m1) (fun r12 m13 => some (r12, m13)))))))
abbrev rm_X6_ifTimed : Room := { frames := 8, cells := 0, slots := 0, locals := 190 }
noncomputable def fX6_balanced (x1 : Int32) (x2 : Int32) (mm : gM) : Option (Int32 × gM) := bnd (fX6_workingSlots mm) (fun r2 => if r2 = 0 then (some (((-1) : Int32), mm)) else (bn2 (fX6_gives x1 mm) (fun r5 m6 => chk (vp_in x2 6) (some (gi m6 33 0 x2.toNatClampNeg, m6)))))
abbrev rm_X6_balanced : Room := { frames := 5, cells := 0, slots := 0, locals := 112 }
noncomputable def fX6_ifBalanced (x1 : Int32) (x2 : Int32) (mm : gM) : Option (Int32 × gM) := wth (si mm 21 0 0 0) (fun m1 => bnd (fX6_isSlot x2) (fun r3 => if r3 = 0 then (bn2 (fX6_fails 1 m1) (fun r16 m17 => some (r16, m17))) else (bnd (fX6_in x1 6 60) (fun r6 => if r6 = 0 then (bn2 (fX6_fails 2 m1) (fun r9 m10 => some (r9, m10))) else (bn2 (fX6_balanced x1 x2 m1) (fun r12 m13 => some (r12, m13)))))))
abbrev rm_X6_ifBalanced : Room := { frames := 6, cells := 0, slots := 0, locals := 134 }
noncomputable def jX6_safestSign_84 (k7 : Int32 → Int32 → Int32 → Int32 → Option (Int32)) (mm : gM) (x1 : Int32) (x2 : Int32) (x4 : Int32) (s0 : Int32) : Option (Int32) := k7 x1 x2 s0 (x4 + 1)
noncomputable def jX6_safestSign_72 (k7 : Int32 → Int32 → Int32 → Int32 → Option (Int32)) (mm : gM) (x1 : Int32) (x3 : Int32) (x4 : Int32) (x6 : Int32) (x7 : Int32) (s0 : Int32) : Option (Int32) := if x7 = 0 then (jX6_safestSign_84 k7 mm x1 s0 x4 x3) else (jX6_safestSign_84 k7 mm x1 s0 x4 x6)
noncomputable def jX6_safestSign_59 (k7 : Int32 → Int32 → Int32 → Int32 → Option (Int32)) (mm : gM) (x1 : Int32) (x2 : Int32) (x3 : Int32) (x4 : Int32) (x6 : Int32) (s0 : Int32) : Option (Int32) := if s0 = 0 then (jX6_safestSign_72 k7 mm x1 x3 x4 x6 s0 x2) else (jX6_safestSign_72 k7 mm x1 x3 x4 x6 s0 x4)
noncomputable def jX6_safestSign_58 (k7 : Int32 → Int32 → Int32 → Int32 → Option (Int32)) (mm : gM) (x1 : Int32) (x2 : Int32) (x3 : Int32) (x4 : Int32) (x6 : Int32) : Option (Int32) := jX6_safestSign_59 k7 mm x1 x2 x3 x4 x6 0
noncomputable def lX6_safestSign_7 (mm : gM) : Nat → Int32 → Int32 → Int32 → Int32 → Option (Int32)
  | 0, _, _, _, _ => none
  | n + 1, x1, x2, x3, x4 => if 18 ≤ x4 then (some x2) else (bnd (fX6_segmentsOf x4) (fun r2 => bnd (fX6_ones r2) (fun r5 => bnd (fX6_segmentsOf x4) (fun r8 => bnd (fX6_working x1 r8 mm) (fun r11 => bnd (fX6_ones r11) (fun r14 => if 1 < (r5 - r14) then (jX6_safestSign_58 (lX6_safestSign_7 mm n) mm x1 x2 x3 x4 r14) else (if r14 ≤ x3 then (jX6_safestSign_58 (lX6_safestSign_7 mm n) mm x1 x2 x3 x4 r14) else (jX6_safestSign_59 (lX6_safestSign_7 mm n) mm x1 x2 x3 x4 r14 1))))))))
theorem lX6_safestSign_7_s (mm : gM) (n : Nat) (x1 : Int32) (x2 : Int32) (x3 : Int32) (x4 : Int32) : lX6_safestSign_7 mm (n + 1) x1 x2 x3 x4 = if 18 ≤ x4 then (some x2) else (bnd (fX6_segmentsOf x4) (fun r2 => bnd (fX6_ones r2) (fun r5 => bnd (fX6_segmentsOf x4) (fun r8 => bnd (fX6_working x1 r8 mm) (fun r11 => bnd (fX6_ones r11) (fun r14 => if 1 < (r5 - r14) then (jX6_safestSign_58 (lX6_safestSign_7 mm n) mm x1 x2 x3 x4 r14) else (if r14 ≤ x3 then (jX6_safestSign_58 (lX6_safestSign_7 mm n) mm x1 x2 x3 x4 r14) else (jX6_safestSign_59 (lX6_safestSign_7 mm n) mm x1 x2 x3 x4 r14 1)))))))) := rfl
noncomputable def fX6_safestSign (x1 : Int32) (mm : gM) : Option (Int32) := lX6_safestSign_7 mm FU x1 (-1) (-1) 0
abbrev rm_X6_safestSign : Room := { frames := 2, cells := 0, slots := 0, locals := 44 }
noncomputable def fX6_safest (x1 : Int32) (mm : gM) : Option (Int32 × gM) := wth (si mm 21 0 0 0) (fun m1 => bnd (fX6_isSlot x1) (fun r3 => if r3 = 0 then (bn2 (fX6_fails 1 m1) (fun r6 m7 => some (r6, m7))) else (bnd (fX6_safestSign x1 m1) (fun r9 => some (r9, m1)))))
abbrev rm_X6_safest : Room := { frames := 3, cells := 0, slots := 0, locals := 71 }
noncomputable def jX6_lit_41 (mm : gM) (s0 : UInt64) : Option (UInt64) := some s0
noncomputable def jX6_lit_25 (mm : gM) (x1 : Int32) : Option (UInt64) := if x1 = 0 then (jX6_lit_41 mm FP.dconst0) else (bnd (fX6_roundTicks mm) (fun r6 => chk (vf_n64 (FP.ddiv (FP.i2d x1) (FP.i2d r6))) (jX6_lit_41 mm (FP.ddiv (FP.i2d x1) (FP.i2d r6)))))
noncomputable def lX6_lit_4 (mm : gM) : Nat → Int32 → Int32 → Option (UInt64)
  | 0, _, _ => none
  | n + 1, x1, x2 => if 6 ≤ x2 then (jX6_lit_25 mm x1) else (bnd (fX6_of x2 2 mm) (fun r2 => (lX6_lit_4 mm n) (x1 + r2) (x2 + 1)))
theorem lX6_lit_4_s (mm : gM) (n : Nat) (x1 : Int32) (x2 : Int32) : lX6_lit_4 mm (n + 1) x1 x2 = if 6 ≤ x2 then (jX6_lit_25 mm x1) else (bnd (fX6_of x2 2 mm) (fun r2 => (lX6_lit_4 mm n) (x1 + r2) (x2 + 1))) := rfl
noncomputable def fX6_lit (mm : gM) : Option (UInt64) := lX6_lit_4 mm FU 0 0
abbrev rm_X6_lit : Room := { frames := 3, cells := 0, slots := 0, locals := 65 }
noncomputable def fX6_litShare (mm : gM) : Option (UInt64 × gM) := wth (si mm 21 0 0 0) (fun m1 => bnd (fX6_lit m1) (fun r3 => some (r3, m1)))
abbrev rm_X6_litShare : Room := { frames := 4, cells := 0, slots := 0, locals := 87 }
noncomputable def jX6_mean_54 (mm : gM) (s0 : UInt32) : Option (UInt32) := some s0
noncomputable def jX6_mean_36 (mm : gM) (x1 : Int32) : Option (UInt32) := bnd (fX6_workingSlots mm) (fun r10 => if r10 = 0 then (jX6_mean_54 mm FP.fconst0) else (chk (vf_n32 (FP.fdiv (FP.i2f x1) (FP.i2f r10))) (jX6_mean_54 mm (FP.fdiv (FP.i2f x1) (FP.i2f r10)))))
noncomputable def jX6_mean_28 (k4 : Int32 → Int32 → Option (UInt32)) (mm : gM) (x2 : Int32) (s0 : Int32) (s1 : Int32) : Option (UInt32) := k4 (s0 + s1) (x2 + 1)
noncomputable def lX6_mean_4 (mm : gM) : Nat → Int32 → Int32 → Option (UInt32)
  | 0, _, _ => none
  | n + 1, x1, x2 => if 6 ≤ x2 then (jX6_mean_36 mm x1) else (bnd (fX6_works x2 mm) (fun r2 => if r2 = 0 then (jX6_mean_28 (lX6_mean_4 mm n) mm x2 x1 0) else (bnd (fX6_meanOf x2 mm) (fun r5 => jX6_mean_28 (lX6_mean_4 mm n) mm x2 x1 r5))))
theorem lX6_mean_4_s (mm : gM) (n : Nat) (x1 : Int32) (x2 : Int32) : lX6_mean_4 mm (n + 1) x1 x2 = if 6 ≤ x2 then (jX6_mean_36 mm x1) else (bnd (fX6_works x2 mm) (fun r2 => if r2 = 0 then (jX6_mean_28 (lX6_mean_4 mm n) mm x2 x1 0) else (bnd (fX6_meanOf x2 mm) (fun r5 => jX6_mean_28 (lX6_mean_4 mm n) mm x2 x1 r5)))) := rfl
noncomputable def fX6_mean (mm : gM) : Option (UInt32) := lX6_mean_4 mm FU 0 0
abbrev rm_X6_mean : Room := { frames := 5, cells := 0, slots := 0, locals := 112 }
noncomputable def fX6_meanBrightness (mm : gM) : Option (UInt32 × gM) := wth (si mm 21 0 0 0) (fun m1 => bnd (fX6_views m1) (fun m4 => bnd (fX6_mean m4) (fun r6 => some (r6, m4))))
abbrev rm_X6_meanBrightness : Room := { frames := 7, cells := 0, slots := 0, locals := 166 }
noncomputable def fX6_hashes (x1 : Int64) (mm : gM) : Option (gM) := wth (sl mm 21 0 ((31 * (gl mm 21 0)) + x1)) (fun m1 => some m1)
abbrev rm_X6_hashes : Room := { frames := 0, cells := 0, slots := 0, locals := 0 }
noncomputable def jX6_hashesSlot_55 (x1 : Int32) (mm : gM) : Option (gM) := bnd (fX6_could x1 0 mm) (fun r18 => bnd (fX6_hashes r18.toInt64 mm) (fun m22 => bnd (fX6_could x1 1 m22) (fun r24 => bnd (fX6_hashes r24.toInt64 m22) (fun m28 => bn2 (fX6_balanced 20 x1 m28) (fun r30 m31 => bnd (fX6_hashes r30.toInt64 m31) (fun m34 => bnd (fX6_safestSign x1 m34) (fun r36 => bnd (fX6_hashes r36.toInt64 m34) (fun m40 => some m40))))))))
noncomputable def lX6_hashesSlot_27 : Nat → Int32 → Int32 → gM → Option (gM)
  | 0, _, _, _ => none
  | n + 1, x1, x2, mm => if 32 ≤ x2 then (jX6_hashesSlot_55 x1 mm) else (chk (¬ (4 : Int32) = 0) (chk (¬ (4 : Int32) = 0) (bnd (fX6_tellsSegment x1 (x2 / 4) (irm x2 4) mm) (fun r11 => bnd (fX6_hashes r11.toInt64 mm) (fun m15 => (lX6_hashesSlot_27 n) x1 (x2 + 1) m15)))))
theorem lX6_hashesSlot_27_s (n : Nat) (x1 : Int32) (x2 : Int32) (mm : gM) : lX6_hashesSlot_27 (n + 1) x1 x2 mm = if 32 ≤ x2 then (jX6_hashesSlot_55 x1 mm) else (chk (¬ (4 : Int32) = 0) (chk (¬ (4 : Int32) = 0) (bnd (fX6_tellsSegment x1 (x2 / 4) (irm x2 4) mm) (fun r11 => bnd (fX6_hashes r11.toInt64 mm) (fun m15 => (lX6_hashesSlot_27 n) x1 (x2 + 1) m15))))) := rfl
noncomputable def jX6_hashesSlot_25 (x1 : Int32) (mm : gM) : Option (gM) := lX6_hashesSlot_27 FU x1 0 mm
noncomputable def lX6_hashesSlot_2 : Nat → Int32 → Int32 → gM → Option (gM)
  | 0, _, _, _ => none
  | n + 1, x1, x2, mm => if 10 ≤ x2 then (jX6_hashesSlot_25 x1 mm) else (bnd (fX6_tellsSlot x1 x2 mm) (fun r2 => bnd (fX6_hashes r2.toInt64 mm) (fun m6 => (lX6_hashesSlot_2 n) x1 (x2 + 1) m6)))
theorem lX6_hashesSlot_2_s (n : Nat) (x1 : Int32) (x2 : Int32) (mm : gM) : lX6_hashesSlot_2 (n + 1) x1 x2 mm = if 10 ≤ x2 then (jX6_hashesSlot_25 x1 mm) else (bnd (fX6_tellsSlot x1 x2 mm) (fun r2 => bnd (fX6_hashes r2.toInt64 mm) (fun m6 => (lX6_hashesSlot_2 n) x1 (x2 + 1) m6))) := rfl
noncomputable def fX6_hashesSlot (x1 : Int32) (mm : gM) : Option (gM) := lX6_hashesSlot_2 FU x1 0 mm
abbrev rm_X6_hashesSlot : Room := { frames := 8, cells := 0, slots := 0, locals := 178 }
noncomputable def fJxe99ae_isNaN_b9ae7 (x0 : UInt64) : Option (Int32) := if (Op.cmpValue (FP.dcmp x0 x0) .l) = 0 then (chk (bz 0) (some (0 : Int32))) else (chk (bz 1) (some (1 : Int32)))
abbrev rm_Jxe99ae_isNaN_b9ae7 : Room := { frames := 0, cells := 0, slots := 0, locals := 0 }
noncomputable def fJxe99ae_doubleToLongBits_ccdee (x0 : UInt64) : Option (Int64) := bnd (fJxe99ae_isNaN_b9ae7 x0) (fun r2 => if r2 = 0 then (some (rawL x0)) else (some (9221120237041090560 : Int64)))
abbrev rm_Jxe99ae_doubleToLongBits_ccdee : Room := { frames := 1, cells := 0, slots := 0, locals := 40 }
noncomputable def fJxf58ca_isNaN_12338 (x0 : UInt32) : Option (Int32) := if (Op.cmpValue (FP.fcmp x0 x0) .l) = 0 then (chk (bz 0) (some (0 : Int32))) else (chk (bz 1) (some (1 : Int32)))
abbrev rm_Jxf58ca_isNaN_12338 : Room := { frames := 0, cells := 0, slots := 0, locals := 0 }
noncomputable def fJxf58ca_floatToIntBits_5c35a (x0 : UInt32) : Option (Int32) := bnd (fJxf58ca_isNaN_12338 x0) (fun r2 => if r2 = 0 then (some (rawI x0)) else (some (2143289344 : Int32)))
abbrev rm_Jxf58ca_floatToIntBits_5c35a : Room := { frames := 1, cells := 0, slots := 0, locals := 40 }
noncomputable def lX6_digest_168 : Nat → Int32 → gM → Option (Int64 × gM)
  | 0, _, _ => none
  | n + 1, x1, mm => if (gi mm 21 0 7) ≤ x1 then (some (gl mm 21 0, mm)) else (chk (vp_in x1 12) (bnd (fX6_hashes ((gi mm 26 0 x1.toNatClampNeg).toInt64) mm) (fun m65 => (lX6_digest_168 n) (x1 + 1) m65)))
theorem lX6_digest_168_s (n : Nat) (x1 : Int32) (mm : gM) : lX6_digest_168 (n + 1) x1 mm = if (gi mm 21 0 7) ≤ x1 then (some (gl mm 21 0, mm)) else (chk (vp_in x1 12) (bnd (fX6_hashes ((gi mm 26 0 x1.toNatClampNeg).toInt64) mm) (fun m65 => (lX6_digest_168 n) (x1 + 1) m65))) := rfl
noncomputable def jX6_digest_154 (s1 : Int64) (mm : gM) : Option (Int64 × gM) := bnd (fX6_hashes s1 mm) (fun m58 => bnd (fX6_hashes ((gi m58 21 0 7).toInt64) m58) (fun m61 => lX6_digest_168 FU 0 m61))
noncomputable def jX6_digest_136 (s1 : Int64) (mm : gM) : Option (Int64 × gM) := bnd (fX6_hashes s1 mm) (fun m53 => chk (vp_in 1 2) (if (gi m53 25 0 (1 : Int32).toNatClampNeg) = 0 then (jX6_digest_154 0 m53) else (jX6_digest_154 1 m53)))
noncomputable def jX6_digest_83 (mm : gM) : Option (Int64 × gM) := bn2 (fX6_timed 0 5 mm) (fun r23 m24 => bnd (fX6_hashes r23.toInt64 m24) (fun m27 => bnd (fX6_views m27) (fun m30 => bnd (fX6_lit m30) (fun r32 => bnd (fJxe99ae_doubleToLongBits_ccdee r32) (fun r35 => bnd (fX6_hashes r35 m30) (fun m39 => bnd (fX6_mean m39) (fun r41 => bnd (fJxf58ca_floatToIntBits_5c35a r41) (fun r44 => bnd (fX6_hashes r44.toInt64 m39) (fun m48 => chk (vp_in 0 2) (if (gi m48 25 0 (0 : Int32).toNatClampNeg) = 0 then (jX6_digest_136 0 m48) else (jX6_digest_136 1 m48)))))))))))
noncomputable def lX6_digest_66 : Nat → Int32 → gM → Option (Int64 × gM)
  | 0, _, _ => none
  | n + 1, x1, mm => if 6 ≤ x1 then (jX6_digest_83 mm) else (bnd (fX6_hashesSlot x1 mm) (fun m20 => (lX6_digest_66 n) (x1 + 1) m20))
theorem lX6_digest_66_s (n : Nat) (x1 : Int32) (mm : gM) : lX6_digest_66 (n + 1) x1 mm = if 6 ≤ x1 then (jX6_digest_83 mm) else (bnd (fX6_hashesSlot x1 mm) (fun m20 => (lX6_digest_66 n) (x1 + 1) m20)) := rfl
noncomputable def jX6_digest_64 (mm : gM) : Option (Int64 × gM) := lX6_digest_66 FU 0 mm
noncomputable def lX6_digest_42 : Nat → Int32 → gM → Option (Int64 × gM)
  | 0, _, _ => none
  | n + 1, x1, mm => if 4 ≤ x1 then (jX6_digest_64 mm) else (chk (vp_in x1 80) (bnd (fX6_hashes ((gi mm 22 0 x1.toNatClampNeg).toInt64) mm) (fun m16 => (lX6_digest_42 n) (x1 + 1) m16)))
theorem lX6_digest_42_s (n : Nat) (x1 : Int32) (mm : gM) : lX6_digest_42 (n + 1) x1 mm = if 4 ≤ x1 then (jX6_digest_64 mm) else (chk (vp_in x1 80) (bnd (fX6_hashes ((gi mm 22 0 x1.toNatClampNeg).toInt64) mm) (fun m16 => (lX6_digest_42 n) (x1 + 1) m16))) := rfl
noncomputable def jX6_digest_40 (mm : gM) : Option (Int64 × gM) := lX6_digest_42 FU 0 mm
noncomputable def lX6_digest_18 : Nat → Int32 → gM → Option (Int64 × gM)
  | 0, _, _ => none
  | n + 1, x1, mm => if 13 ≤ x1 then (jX6_digest_40 mm) else (bnd (fX6_tellsCount x1 mm) (fun r7 => bnd (fX6_hashes r7.toInt64 mm) (fun m11 => (lX6_digest_18 n) (x1 + 1) m11)))
theorem lX6_digest_18_s (n : Nat) (x1 : Int32) (mm : gM) : lX6_digest_18 (n + 1) x1 mm = if 13 ≤ x1 then (jX6_digest_40 mm) else (bnd (fX6_tellsCount x1 mm) (fun r7 => bnd (fX6_hashes r7.toInt64 mm) (fun m11 => (lX6_digest_18 n) (x1 + 1) m11))) := rfl
noncomputable def fX6_digest (mm : gM) : Option (Int64 × gM) := wth (si mm 21 0 0 0) (fun m1 => wth (sl m1 21 0 3347) (fun m2 => bnd (fX6_views m2) (fun m5 => lX6_digest_18 FU 0 m5)))
abbrev rm_X6_digest : Room := { frames := 9, cells := 0, slots := 0, locals := 200 }
noncomputable def jX5_checkSlot_10 : Option ((String ⊕ Unit)) := some (.inl "java/lang/IndexOutOfBoundsException")
noncomputable def fX5_checkSlot (x0 : Int32) : Option ((String ⊕ Unit)) := if x0 < 0 then (jX5_checkSlot_10 ) else (if x0 < 6 then (some (.inr ())) else (jX5_checkSlot_10 ))
abbrev rm_X5_checkSlot : Room := { frames := 6, cells := 1, slots := 6, locals := 82 }
noncomputable def jX5_show_14 (mm : gM) : Option ((String ⊕ Int32) × gM) := some (.inl "java/lang/IllegalArgumentException", mm)
noncomputable def fX5_show (x1 : Int32) (x2 : Int32) (mm : gM) : Option ((String ⊕ Int32) × gM) := bx (fX5_checkSlot x1) (fun E_ => some (.inl E_, mm)) (fun r2 => if x2 < 0 then (jX5_show_14 mm) else (if x2 < 18 then (bnd (fX5_saveState mm) (fun m7 => chk (vp_in x1 6) (wth (gi m7 1 0 x1.toNatClampNeg) (fun v9 => chk (vp_in x1 6) (wth (si m7 1 0 x1.toNatClampNeg x2) (fun m11 => some (.inr v9, m11))))))) else (jX5_show_14 mm)))
abbrev rm_X5_show : Room := { frames := 7, cells := 2, slots := 12, locals := 102 }
noncomputable def fX5_dot (x1 : Int32) (mm : gM) : Option ((String ⊕ Int32) × gM) := bx (fX5_checkSlot x1) (fun E_ => some (.inl E_, mm)) (fun r2 => bnd (fX5_saveState mm) (fun m7 => wth (si m7 0 0 5 ((gi m7 0 0 5) ^^^ (1 <<< (x1 &&& 31)))) (fun m8 => bnd (fX5_bit (gi m8 0 0 5) x1) (fun r10 => some (.inr r10, m8)))))
abbrev rm_X5_dot : Room := { frames := 7, cells := 1, slots := 6, locals := 102 }
noncomputable def jX5_checkSegment_10 : Option ((String ⊕ Unit)) := some (.inl "java/lang/IndexOutOfBoundsException")
noncomputable def fX5_checkSegment (x0 : Int32) : Option ((String ⊕ Unit)) := if x0 < 0 then (jX5_checkSegment_10 ) else (if x0 < 8 then (some (.inr ())) else (jX5_checkSegment_10 ))
abbrev rm_X5_checkSegment : Room := { frames := 6, cells := 1, slots := 6, locals := 82 }
noncomputable def fX5_burn (x1 : Int32) (x2 : Int32) (mm : gM) : Option ((String ⊕ Int32) × gM) := bx (fX5_checkSlot x1) (fun E_ => some (.inl E_, mm)) (fun r2 => bx (fX5_checkSegment x2) (fun E_ => some (.inl E_, mm)) (fun r6 => bnd (fX5_saveState mm) (fun m11 => chk (vp_in x1 6) (chk (vp_in x1 6) (wth (si m11 2 0 x1.toNatClampNeg ((gi m11 2 0 x1.toNatClampNeg) ^^^ (1 <<< (x2 &&& 31)))) (fun m14 => chk (vp_in x1 6) (bnd (fX5_bit (gi m14 2 0 x1.toNatClampNeg) x2) (fun r17 => some (.inr r17, m14)))))))))
abbrev rm_X5_burn : Room := { frames := 7, cells := 2, slots := 12, locals := 102 }
noncomputable def fX5_cut (x1 : Int32) (mm : gM) : Option ((String ⊕ Int32) × gM) := bx (fX5_checkSegment x1) (fun E_ => some (.inl E_, mm)) (fun r2 => bnd (fX5_saveState mm) (fun m7 => wth (si m7 0 0 6 ((gi m7 0 0 6) ^^^ (1 <<< (x1 &&& 31)))) (fun m8 => bnd (fX5_bit (gi m8 0 0 6) x1) (fun r10 => some (.inr r10, m8)))))
abbrev rm_X5_cut : Room := { frames := 7, cells := 1, slots := 6, locals := 102 }
noncomputable def jX5_checkTime_10 : Option ((String ⊕ Unit)) := some (.inl "java/lang/IllegalArgumentException")
noncomputable def fX5_checkTime (x0 : Int32) : Option ((String ⊕ Unit)) := if x0 < 0 then (jX5_checkTime_10 ) else (if x0 ≤ 20 then (some (.inr ())) else (jX5_checkTime_10 ))
abbrev rm_X5_checkTime : Room := { frames := 6, cells := 1, slots := 6, locals := 82 }
noncomputable def fX5_time (x1 : Int32) (x2 : Int32) (mm : gM) : Option ((String ⊕ Int32) × gM) := bx (fX5_checkSlot x1) (fun E_ => some (.inl E_, mm)) (fun r2 => bx (fX5_checkTime x2) (fun E_ => some (.inl E_, mm)) (fun r6 => bnd (fX5_saveState mm) (fun m11 => chk (vp_in x1 6) (wth (gi m11 3 0 x1.toNatClampNeg) (fun v13 => chk (vp_in x1 6) (wth (si m11 3 0 x1.toNatClampNeg x2) (fun m15 => wth (si m15 0 0 8 0) (fun m16 => some (.inr v13, m16)))))))))
abbrev rm_X5_time : Room := { frames := 7, cells := 2, slots := 12, locals := 102 }
noncomputable def jX5_checkBalanced_12 : Option ((String ⊕ Unit)) := some (.inl "java/lang/IllegalArgumentException")
noncomputable def fX5_checkBalanced (x0 : Int32) : Option ((String ⊕ Unit)) := if x0 < 6 then (jX5_checkBalanced_12 ) else (if x0 ≤ 60 then (some (.inr ())) else (jX5_checkBalanced_12 ))
abbrev rm_X5_checkBalanced : Room := { frames := 6, cells := 1, slots := 6, locals := 82 }
noncomputable def jX5_balance_67 (x2 : Int32) (mm : gM) : Option ((String ⊕ Int32) × gM) := wth (si mm 0 0 8 0) (fun m16 => some (.inr x2, m16))
noncomputable def lX5_balance_37 : Nat → Int32 → Int32 → gM → Option ((String ⊕ Int32) × gM)
  | 0, _, _, _ => none
  | n + 1, x2, x3, mm => if 6 ≤ x3 then (jX5_balance_67 x2 mm) else (chk (vp_in x3 6) (chk (vp_in x3 6) (wth (si mm 3 0 x3.toNatClampNeg (gi mm 14 0 x3.toNatClampNeg)) (fun m14 => (lX5_balance_37 n) x2 (x3 + 1) m14))))
theorem lX5_balance_37_s (n : Nat) (x2 : Int32) (x3 : Int32) (mm : gM) : lX5_balance_37 (n + 1) x2 x3 mm = if 6 ≤ x3 then (jX5_balance_67 x2 mm) else (chk (vp_in x3 6) (chk (vp_in x3 6) (wth (si mm 3 0 x3.toNatClampNeg (gi mm 14 0 x3.toNatClampNeg)) (fun m14 => (lX5_balance_37 n) x2 (x3 + 1) m14)))) := rfl
noncomputable def fX5_balance (x1 : Int32) (mm : gM) : Option ((String ⊕ Int32) × gM) := bx (fX5_checkBalanced x1) (fun E_ => some (.inl E_, mm)) (fun r2 => bn2 (fX0_spread 0 x1 mm) (fun r6 m7 => if r6 = 0 then (some (.inl "java/lang/IllegalStateException", m7)) else (bnd (fX5_saveState m7) (fun m10 => lX5_balance_37 FU r6 0 m10))))
abbrev rm_X5_balance : Room := { frames := 7, cells := 2, slots := 12, locals := 102 }
noncomputable def jX5_checkSetting_9 : Option ((String ⊕ Unit)) := some (.inl "java/lang/IndexOutOfBoundsException")
noncomputable def fX5_checkSetting (x0 : Int32) : Option ((String ⊕ Unit)) := if x0 < 0 then (jX5_checkSetting_9 ) else (if x0 < 4 then (some (.inr ())) else (jX5_checkSetting_9 ))
abbrev rm_X5_checkSetting : Room := { frames := 6, cells := 1, slots := 6, locals := 82 }
noncomputable def jX5_set_22 (mm : gM) : Option ((String ⊕ Int32) × gM) := some (.inl "java/lang/IllegalArgumentException", mm)
noncomputable def fX5_set (x1 : Int32) (x2 : Int32) (mm : gM) : Option ((String ⊕ Int32) × gM) := bx (fX5_checkSetting x1) (fun E_ => some (.inl E_, mm)) (fun r2 => chk (vp_in x1 4) (if x2 < (tS2 x1.toNatClampNeg) then (jX5_set_22 mm) else (chk (vp_in x1 4) (if x2 ≤ (tS3 x1.toNatClampNeg) then (bnd (fX5_saveState mm) (fun m9 => chk (vp_in x1 4) (wth (gi m9 5 0 x1.toNatClampNeg) (fun v11 => chk (vp_in x1 4) (wth (si m9 5 0 x1.toNatClampNeg x2) (fun m13 => wth (si m13 0 0 8 0) (fun m14 => some (.inr v11, m14)))))))) else (jX5_set_22 mm)))))
abbrev rm_X5_set : Room := { frames := 7, cells := 2, slots := 12, locals := 102 }
noncomputable def jX5_pass_12 (mm : gM) : Option ((String ⊕ Int32) × gM) := some (.inl "java/lang/IllegalArgumentException", mm)
noncomputable def fX5_pass (x1 : Int32) (mm : gM) : Option ((String ⊕ Int32) × gM) := if x1 < 1 then (jX5_pass_12 mm) else (if x1 ≤ 200 then (bnd (fX2_roundTicks 0 mm) (fun r2 => if 1 ≤ r2 then (if ((gi mm 0 0 7) + x1) ≤ 99999 then (bnd (fX5_saveState mm) (fun m6 => bnd (fX5_fadeAndLight x1 m6) (fun m9 => chk (¬ r2 = 0) (wth (((gi m9 0 0 8) + x1) / r2) (fun v11 => chk (¬ r2 = 0) (wth (si m9 0 0 8 (irm ((gi m9 0 0 8) + x1) r2)) (fun m13 => wth (si m13 0 0 7 ((gi m13 0 0 7) + x1)) (fun m14 => wth (si m14 0 0 9 ((gi m14 0 0 9) + v11)) (fun m15 => some (.inr v11, m15)))))))))) else (some (.inl "java/lang/IllegalStateException", mm))) else (some (.inl "java/lang/IllegalStateException", mm)))) else (jX5_pass_12 mm))
abbrev rm_X5_pass : Room := { frames := 6, cells := 1, slots := 6, locals := 101 }
noncomputable def jX5_append_12 (mm : gM) : Option ((String ⊕ Int32) × gM) := some (.inl "java/lang/IllegalArgumentException", mm)
noncomputable def fX5_append (x1 : Int32) (mm : gM) : Option ((String ⊕ Int32) × gM) := if x1 < 33 then (jX5_append_12 mm) else (if x1 ≤ 126 then (if (gi mm 16 0 1) < 12 then (bnd (fX3_put (i2c x1) mm) (fun m3 => some (.inr (gi m3 16 0 1), m3))) else (some (.inl "java/lang/IllegalStateException", mm))) else (jX5_append_12 mm))
abbrev rm_X5_append : Room := { frames := 6, cells := 1, slots := 6, locals := 82 }
noncomputable def jX5_load_27 (mm : gM) : Option ((String ⊕ Int32) × gM) := some (.inl "java/lang/IllegalArgumentException", mm)
noncomputable def fX5_load (mm : gM) : Option ((String ⊕ Int32) × gM) := if (gi mm 16 0 1) = 0 then (jX5_load_27 mm) else (bnd (fX3_errorAt mm) (fun r2 => if (gi mm 16 0 1) ≤ r2 then (bnd (fX5_saveState mm) (fun m6 => bn2 (fX3_putOn 0 m6) (fun r8 m9 => wth (si m9 16 0 1 0) (fun m10 => some (.inr r8, m10))))) else (jX5_load_27 mm)))
abbrev rm_X5_load : Room := { frames := 6, cells := 1, slots := 6, locals := 114 }
noncomputable def jX5_checkSnapshot_9 : Option ((String ⊕ Unit)) := some (.inl "java/lang/IllegalArgumentException")
noncomputable def fX5_checkSnapshot (x0 : Int32) : Option ((String ⊕ Unit)) := if x0 < 0 then (jX5_checkSnapshot_9 ) else (if x0 < 2 then (some (.inr ())) else (jX5_checkSnapshot_9 ))
abbrev rm_X5_checkSnapshot : Room := { frames := 6, cells := 1, slots := 6, locals := 82 }
noncomputable def fX5_keep (x1 : Int32) (mm : gM) : Option ((String ⊕ Int32) × gM) := bx (fX5_checkSnapshot x1) (fun E_ => some (.inl E_, mm)) (fun r2 => chk (vp_in x1 2) (bnd (fX2_copyFrom (2 + x1.toNatClampNeg) 0 mm) (fun m9 => chk (vp_in x1 2) (wth (si m9 19 0 x1.toNatClampNeg (vp_nar .boolean 1)) (fun m11 => some (.inr (gi m11 0 0 7), m11))))))
abbrev rm_X5_keep : Room := { frames := 7, cells := 1, slots := 6, locals := 102 }
noncomputable def fX5_goBack (x1 : Int32) (mm : gM) : Option ((String ⊕ Int32) × gM) := bx (fX5_checkSnapshot x1) (fun E_ => some (.inl E_, mm)) (fun r2 => chk (vp_in x1 2) (if (gi mm 19 0 x1.toNatClampNeg) = 0 then (some (.inl "java/lang/IllegalStateException", mm)) else (bnd (fX5_saveState mm) (fun m8 => chk (vp_in x1 2) (bnd (fX2_copyFrom 0 (2 + x1.toNatClampNeg) m8) (fun m13 => some (.inr (gi m13 0 0 7), m13)))))))
abbrev rm_X5_goBack : Room := { frames := 7, cells := 2, slots := 12, locals := 102 }
noncomputable def jX5_undo_36 (s1 : Int32) (mm : gM) : Option ((String ⊕ Int32) × gM) := wth (si mm 12 0 10 s1) (fun m3 => wth (si m3 12 0 9 ((gi m3 12 0 9) - 1)) (fun m4 => chk (vp_in (gi m4 12 0 10) 6) (bnd (fX2_copyFrom 0 (4 + (gi m4 12 0 10).toNatClampNeg) m4) (fun m9 => bnd (fX1_forget 0 m9) (fun m12 => some (.inr (gi m12 12 0 9), m12))))))
noncomputable def fX5_undo (mm : gM) : Option ((String ⊕ Int32) × gM) := if 1 ≤ (gi mm 12 0 9) then (if (gi mm 12 0 10) ≤ 0 then (jX5_undo_36 5 mm) else (jX5_undo_36 ((gi mm 12 0 10) - 1) mm)) else (some (.inl "java/lang/IllegalStateException", mm))
abbrev rm_X5_undo : Room := { frames := 6, cells := 1, slots := 6, locals := 82 }
noncomputable def jX5_checkWhat_9 : Option ((String ⊕ Unit)) := some (.inl "java/lang/IllegalArgumentException")
noncomputable def fX5_checkWhat (x0 : Int32) (x1 : Int32) : Option ((String ⊕ Unit)) := if x0 < 0 then (jX5_checkWhat_9 ) else (if x0 < x1 then (some (.inr ())) else (jX5_checkWhat_9 ))
abbrev rm_X5_checkWhat : Room := { frames := 6, cells := 1, slots := 6, locals := 82 }
noncomputable def fX5_slotOf (x1 : Int32) (x2 : Int32) (mm : gM) : Option ((String ⊕ Int32) × gM) := bx (fX5_checkSlot x1) (fun E_ => some (.inl E_, mm)) (fun r2 => bx (fX5_checkWhat x2 10) (fun E_ => some (.inl E_, mm)) (fun r6 => bn2 (fX5_slotProperty x1 x2 mm) (fun r10 m11 => some (.inr r10, m11))))
abbrev rm_X5_slotOf : Room := { frames := 7, cells := 2, slots := 12, locals := 120 }
noncomputable def fX5_segmentOf (x1 : Int32) (x2 : Int32) (x3 : Int32) (mm : gM) : Option ((String ⊕ Int32) × gM) := bx (fX5_checkSlot x1) (fun E_ => some (.inl E_, mm)) (fun r2 => bx (fX5_checkSegment x2) (fun E_ => some (.inl E_, mm)) (fun r6 => bx (fX5_checkWhat x3 4) (fun E_ => some (.inl E_, mm)) (fun r10 => bn2 (fX5_segmentProperty x1 x2 x3 mm) (fun r14 m15 => some (.inr r14, m15)))))
abbrev rm_X5_segmentOf : Room := { frames := 7, cells := 3, slots := 18, locals := 122 }
noncomputable def fX5_count (x1 : Int32) (mm : gM) : Option ((String ⊕ Int32) × gM) := bx (fX5_checkWhat x1 13) (fun E_ => some (.inl E_, mm)) (fun r2 => bn2 (fX5_number x1 mm) (fun r6 m7 => some (.inr r6, m7)))
abbrev rm_X5_count : Room := { frames := 7, cells := 1, slots := 6, locals := 144 }
noncomputable def fX5_setting (x1 : Int32) (mm : gM) : Option ((String ⊕ Int32)) := bx (fX5_checkSetting x1) (fun E_ => some (.inl E_)) (fun r2 => chk (vp_in x1 4) (some (.inr (gi mm 5 0 x1.toNatClampNeg))))
abbrev rm_X5_setting : Room := { frames := 7, cells := 1, slots := 6, locals := 102 }
noncomputable def fX5_couldBe (x1 : Int32) (x2 : Int32) (mm : gM) : Option ((String ⊕ Int32)) := bx (fX5_checkSlot x1) (fun E_ => some (.inl E_)) (fun r2 => bx (fX5_checkWhat x2 2) (fun E_ => some (.inl E_)) (fun r6 => if x2 = 0 then (bnd (fX5_alikeSigns x1 mm) (fun r13 => some (.inr r13))) else (bnd (fX5_lowestAlike x1 mm) (fun r10 => some (.inr r10)))))
abbrev rm_X5_couldBe : Room := { frames := 7, cells := 2, slots := 12, locals := 103 }
noncomputable def fX5_ifTimed (x1 : Int32) (x2 : Int32) (mm : gM) : Option ((String ⊕ Int32) × gM) := bx (fX5_checkSlot x1) (fun E_ => some (.inl E_, mm)) (fun r2 => bx (fX5_checkTime x2) (fun E_ => some (.inl E_, mm)) (fun r6 => bn2 (fX5_meanIfTimed x1 x2 mm) (fun r10 m11 => some (.inr r10, m11))))
abbrev rm_X5_ifTimed : Room := { frames := 7, cells := 2, slots := 12, locals := 120 }
noncomputable def fX5_ifBalanced (x1 : Int32) (x2 : Int32) (mm : gM) : Option ((String ⊕ Int32) × gM) := bx (fX5_checkSlot x2) (fun E_ => some (.inl E_, mm)) (fun r2 => bx (fX5_checkBalanced x1) (fun E_ => some (.inl E_, mm)) (fun r6 => bn2 (fX5_timeIfBalanced x1 x2 mm) (fun r10 m11 => some (.inr r10, m11))))
abbrev rm_X5_ifBalanced : Room := { frames := 7, cells := 2, slots := 12, locals := 102 }
noncomputable def fX5_safest (x1 : Int32) (mm : gM) : Option ((String ⊕ Int32)) := bx (fX5_checkSlot x1) (fun E_ => some (.inl E_)) (fun r2 => bnd (fX5_leastHurt x1 mm) (fun r6 => some (.inr r6)))
abbrev rm_X5_safest : Room := { frames := 7, cells := 1, slots := 6, locals := 102 }
