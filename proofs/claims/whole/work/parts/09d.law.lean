set_option maxRecDepth 100000 in
set_option maxHeartbeats 16000000 in
/-- THE LAW'S LOOP, from its head on -/
theorem law_loop {p : Program} {l : Launch} {e : Env} {s : State} {m : MethodId} {args : Array Value} {below : List Frame} {meth : Method} {c : Code} {Q : State → Prop} {g : gG} {b L : Nat} {xs : Nat → Int32} (hDW : DW g) (hst : l.stackTraces = false) (X : Cx g p s m args c meth RL cL_law) (hml : c.maxLocals = 9) (hX : va_X b L xs s s.heap) (hbl : b < s.heap.size) (hbA : ¬ gA g b)
    (hend : ∀ (pc : Nat) (H : Heap) (locs : List Loc) (ls : Array Slot) (cells slots : Nat), decode cL_law pc = .ok (.ireturn, 1) → (∀ q ∈ locs, gA g q.base) → cells ≤ 601024 → slots ≤ 7293034 → W p l e room_1 s m args below meth c H locs cells slots Q (F0 m pc ls [.int 1])) :
    ∀ (n23 : Nat) (x4 : Int32) (mm : gM) (H : Heap) (locs : List Loc) (ls : Array Slot) (cells slots : Nat), cells + 3 * n23 ≤ 600000 → slots + 18 * n23 ≤ 7200000 → Wd g mm s H locs → lv_has ls 9 [(0, .ref b), (1, .ref (ad g 12 0)), (2, .ref (ad g 21 0)), (3, .ref (ad g 34 0)), (4, .int x4)] → lL_law_23 xs L n23 x4 mm = some 1 → W p l e room_1 s m args below meth c H locs cells slots Q (F0 m 23 ls []) := by
  have hx := X.1
  have hb := X.2.1
  have hlocks := X.2.2.2.2.2.2.2
  intro n23
  induction n23 with
  | zero => intro x4 mm H locs ls cells slots hc hs hW hl hf; exact (no_some hf).elim
  | succ n23 ih_23 =>
    have P_1569 : ∀ (x4 : Int32) (mm : gM) (H : Heap) (locs : List Loc) (ls : Array Slot) (cells slots : Nat), cells + 3 * n23 ≤ 600000 → slots + 18 * n23 ≤ 7200000 → Wd g mm s H locs → lv_has ls 9 [(0, .ref b), (1, .ref (ad g 12 0)), (2, .ref (ad g 21 0)), (3, .ref (ad g 34 0)), (4, .int x4)] → jL_law_1569 (lL_law_23 xs L n23) xs L x4 mm = some 1 → W p l e room_1 s m args below meth c H locs cells slots Q (F0 m 1569 ls []) := by
      intro x4 mm H locs ls cells slots hc hs hW hl hf
      unfold jL_law_1569 at hf
      refine lv_iinc (v := x4 + 4) (lv' := [(4, .int (x4 + 4)), (0, .ref b), (1, .ref (ad g 12 0)), (2, .ref (ad g 21 0)), (3, .ref (ad g 34 0))]) hx hb dL_law_1569 hl (k := 4) rfl rfl (by decide) rfl (fun ls hl => ?_)
      refine lv_goto (tgt := 23) hx hb dL_law_1572 (by decide) ?_
      exact ih_23 _ _ _ _ _ _ _ (by omega) (by omega) hW (lv_sub hl [1, 2, 3, 4, 0] rfl) hf
    have P_1552 : ∀ (x4 : Int32) (mm : gM) (H : Heap) (locs : List Loc) (ls : Array Slot) (cells slots : Nat), cells + 3 * n23 ≤ 600000 → slots + 18 * n23 ≤ 7200000 → Wd g mm s H locs → lv_has ls 9 [(0, .ref b), (1, .ref (ad g 12 0)), (2, .ref (ad g 21 0)), (3, .ref (ad g 34 0)), (4, .int x4)] → jL_law_1552 (lL_law_23 xs L n23) xs L x4 mm = some 1 → W p l e room_1 s m args below meth c H locs cells slots Q (F0 m 1552 ls []) := by
      intro x4 mm H locs ls cells slots hc hs hW hl hf
      unfold jL_law_1552 at hf
      refine lv_goto (tgt := 1569) hx hb dL_law_1552 (by decide) ?_
      exact P_1569 _ _ _ _ _ _ _ (by omega) (by omega) hW (lv_sub hl [0, 1, 2, 3, 4] rfl) hf
    have P_1509 : ∀ (x4 : Int32) (mm : gM) (H : Heap) (locs : List Loc) (ls : Array Slot) (cells slots : Nat), cells + 3 * n23 ≤ 600000 → slots + 18 * n23 ≤ 7200000 → Wd g mm s H locs → lv_has ls 9 [(0, .ref b), (1, .ref (ad g 12 0)), (2, .ref (ad g 21 0)), (3, .ref (ad g 34 0)), (4, .int x4)] → jL_law_1509 (lL_law_23 xs L n23) xs L x4 mm = some 1 → W p l e room_1 s m args below meth c H locs cells slots Q (F0 m 1509 ls []) := by
      intro x4 mm H locs ls cells slots hc hs hW hl hf
      unfold jL_law_1509 at hf
      refine lv_goto (tgt := 1569) hx hb dL_law_1509 (by decide) ?_
      exact P_1569 _ _ _ _ _ _ _ (by omega) (by omega) hW (lv_sub hl [0, 1, 2, 3, 4] rfl) hf
    have P_1468 : ∀ (x4 : Int32) (mm : gM) (H : Heap) (locs : List Loc) (ls : Array Slot) (cells slots : Nat), cells + 3 * n23 ≤ 600000 → slots + 18 * n23 ≤ 7200000 → Wd g mm s H locs → lv_has ls 9 [(0, .ref b), (1, .ref (ad g 12 0)), (2, .ref (ad g 21 0)), (3, .ref (ad g 34 0)), (4, .int x4)] → jL_law_1468 (lL_law_23 xs L n23) xs L x4 mm = some 1 → W p l e room_1 s m args below meth c H locs cells slots Q (F0 m 1468 ls []) := by
      intro x4 mm H locs ls cells slots hc hs hW hl hf
      unfold jL_law_1468 at hf
      refine lv_goto (tgt := 1569) hx hb dL_law_1468 (by decide) ?_
      exact P_1569 _ _ _ _ _ _ _ (by omega) (by omega) hW (lv_sub hl [0, 1, 2, 3, 4] rfl) hf
    have P_1412 : ∀ (x4 : Int32) (mm : gM) (H : Heap) (locs : List Loc) (ls : Array Slot) (cells slots : Nat), cells + 3 * n23 ≤ 600000 → slots + 18 * n23 ≤ 7200000 → Wd g mm s H locs → lv_has ls 9 [(0, .ref b), (1, .ref (ad g 12 0)), (2, .ref (ad g 21 0)), (3, .ref (ad g 34 0)), (4, .int x4)] → jL_law_1412 (lL_law_23 xs L n23) xs L x4 mm = some 1 → W p l e room_1 s m args below meth c H locs cells slots Q (F0 m 1412 ls []) := by
      intro x4 mm H locs ls cells slots hc hs hW hl hf
      unfold jL_law_1412 at hf
      refine lv_goto (tgt := 1569) hx hb dL_law_1412 (by decide) ?_
      exact P_1569 _ _ _ _ _ _ _ (by omega) (by omega) hW (lv_sub hl [0, 1, 2, 3, 4] rfl) hf
    have P_1344 : ∀ (x4 : Int32) (mm : gM) (H : Heap) (locs : List Loc) (ls : Array Slot) (cells slots : Nat), cells + 3 * n23 ≤ 600000 → slots + 18 * n23 ≤ 7200000 → Wd g mm s H locs → lv_has ls 9 [(0, .ref b), (1, .ref (ad g 12 0)), (2, .ref (ad g 21 0)), (3, .ref (ad g 34 0)), (4, .int x4)] → jL_law_1344 (lL_law_23 xs L n23) xs L x4 mm = some 1 → W p l e room_1 s m args below meth c H locs cells slots Q (F0 m 1344 ls []) := by
      intro x4 mm H locs ls cells slots hc hs hW hl hf
      unfold jL_law_1344 at hf
      refine lv_goto (tgt := 1569) hx hb dL_law_1344 (by decide) ?_
      exact P_1569 _ _ _ _ _ _ _ (by omega) (by omega) hW (lv_sub hl [0, 1, 2, 3, 4] rfl) hf
    have P_1276 : ∀ (x4 : Int32) (mm : gM) (H : Heap) (locs : List Loc) (ls : Array Slot) (cells slots : Nat), cells + 3 * n23 ≤ 600000 → slots + 18 * n23 ≤ 7200000 → Wd g mm s H locs → lv_has ls 9 [(0, .ref b), (1, .ref (ad g 12 0)), (2, .ref (ad g 21 0)), (3, .ref (ad g 34 0)), (4, .int x4)] → jL_law_1276 (lL_law_23 xs L n23) xs L x4 mm = some 1 → W p l e room_1 s m args below meth c H locs cells slots Q (F0 m 1276 ls []) := by
      intro x4 mm H locs ls cells slots hc hs hW hl hf
      unfold jL_law_1276 at hf
      refine lv_goto (tgt := 1569) hx hb dL_law_1276 (by decide) ?_
      exact P_1569 _ _ _ _ _ _ _ (by omega) (by omega) hW (lv_sub hl [0, 1, 2, 3, 4] rfl) hf
    have P_1208 : ∀ (x4 : Int32) (mm : gM) (H : Heap) (locs : List Loc) (ls : Array Slot) (cells slots : Nat), cells + 3 * n23 ≤ 600000 → slots + 18 * n23 ≤ 7200000 → Wd g mm s H locs → lv_has ls 9 [(0, .ref b), (1, .ref (ad g 12 0)), (2, .ref (ad g 21 0)), (3, .ref (ad g 34 0)), (4, .int x4)] → jL_law_1208 (lL_law_23 xs L n23) xs L x4 mm = some 1 → W p l e room_1 s m args below meth c H locs cells slots Q (F0 m 1208 ls []) := by
      intro x4 mm H locs ls cells slots hc hs hW hl hf
      unfold jL_law_1208 at hf
      refine lv_goto (tgt := 1569) hx hb dL_law_1208 (by decide) ?_
      exact P_1569 _ _ _ _ _ _ _ (by omega) (by omega) hW (lv_sub hl [0, 1, 2, 3, 4] rfl) hf
    have P_1152 : ∀ (x4 : Int32) (mm : gM) (H : Heap) (locs : List Loc) (ls : Array Slot) (cells slots : Nat), cells + 3 * n23 ≤ 600000 → slots + 18 * n23 ≤ 7200000 → Wd g mm s H locs → lv_has ls 9 [(0, .ref b), (1, .ref (ad g 12 0)), (2, .ref (ad g 21 0)), (3, .ref (ad g 34 0)), (4, .int x4)] → jL_law_1152 (lL_law_23 xs L n23) xs L x4 mm = some 1 → W p l e room_1 s m args below meth c H locs cells slots Q (F0 m 1152 ls []) := by
      intro x4 mm H locs ls cells slots hc hs hW hl hf
      unfold jL_law_1152 at hf
      refine lv_goto (tgt := 1569) hx hb dL_law_1152 (by decide) ?_
      exact P_1569 _ _ _ _ _ _ _ (by omega) (by omega) hW (lv_sub hl [0, 1, 2, 3, 4] rfl) hf
    have P_1096 : ∀ (x4 : Int32) (mm : gM) (H : Heap) (locs : List Loc) (ls : Array Slot) (cells slots : Nat), cells + 3 * n23 ≤ 600000 → slots + 18 * n23 ≤ 7200000 → Wd g mm s H locs → lv_has ls 9 [(0, .ref b), (1, .ref (ad g 12 0)), (2, .ref (ad g 21 0)), (3, .ref (ad g 34 0)), (4, .int x4)] → jL_law_1096 (lL_law_23 xs L n23) xs L x4 mm = some 1 → W p l e room_1 s m args below meth c H locs cells slots Q (F0 m 1096 ls []) := by
      intro x4 mm H locs ls cells slots hc hs hW hl hf
      unfold jL_law_1096 at hf
      refine lv_goto (tgt := 1569) hx hb dL_law_1096 (by decide) ?_
      exact P_1569 _ _ _ _ _ _ _ (by omega) (by omega) hW (lv_sub hl [0, 1, 2, 3, 4] rfl) hf
    have P_1016 : ∀ (x4 : Int32) (mm : gM) (H : Heap) (locs : List Loc) (ls : Array Slot) (cells slots : Nat), cells + 3 * n23 ≤ 600000 → slots + 18 * n23 ≤ 7200000 → Wd g mm s H locs → lv_has ls 9 [(0, .ref b), (1, .ref (ad g 12 0)), (2, .ref (ad g 21 0)), (3, .ref (ad g 34 0)), (4, .int x4)] → jL_law_1016 (lL_law_23 xs L n23) xs L x4 mm = some 1 → W p l e room_1 s m args below meth c H locs cells slots Q (F0 m 1016 ls []) := by
      intro x4 mm H locs ls cells slots hc hs hW hl hf
      unfold jL_law_1016 at hf
      refine lv_goto (tgt := 1569) hx hb dL_law_1016 (by decide) ?_
      exact P_1569 _ _ _ _ _ _ _ (by omega) (by omega) hW (lv_sub hl [0, 1, 2, 3, 4] rfl) hf
    have P_948 : ∀ (x4 : Int32) (mm : gM) (H : Heap) (locs : List Loc) (ls : Array Slot) (cells slots : Nat), cells + 3 * n23 ≤ 600000 → slots + 18 * n23 ≤ 7200000 → Wd g mm s H locs → lv_has ls 9 [(0, .ref b), (1, .ref (ad g 12 0)), (2, .ref (ad g 21 0)), (3, .ref (ad g 34 0)), (4, .int x4)] → jL_law_948 (lL_law_23 xs L n23) xs L x4 mm = some 1 → W p l e room_1 s m args below meth c H locs cells slots Q (F0 m 948 ls []) := by
      intro x4 mm H locs ls cells slots hc hs hW hl hf
      unfold jL_law_948 at hf
      refine lv_goto (tgt := 1569) hx hb dL_law_948 (by decide) ?_
      exact P_1569 _ _ _ _ _ _ _ (by omega) (by omega) hW (lv_sub hl [0, 1, 2, 3, 4] rfl) hf
    have P_904 : ∀ (x4 : Int32) (mm : gM) (H : Heap) (locs : List Loc) (ls : Array Slot) (cells slots : Nat), cells + 3 * n23 ≤ 600000 → slots + 18 * n23 ≤ 7200000 → Wd g mm s H locs → lv_has ls 9 [(0, .ref b), (1, .ref (ad g 12 0)), (2, .ref (ad g 21 0)), (3, .ref (ad g 34 0)), (4, .int x4)] → jL_law_904 (lL_law_23 xs L n23) xs L x4 mm = some 1 → W p l e room_1 s m args below meth c H locs cells slots Q (F0 m 904 ls []) := by
      intro x4 mm H locs ls cells slots hc hs hW hl hf
      unfold jL_law_904 at hf
      refine lv_goto (tgt := 1569) hx hb dL_law_904 (by decide) ?_
      exact P_1569 _ _ _ _ _ _ _ (by omega) (by omega) hW (lv_sub hl [0, 1, 2, 3, 4] rfl) hf
    have P_848 : ∀ (x4 : Int32) (mm : gM) (H : Heap) (locs : List Loc) (ls : Array Slot) (cells slots : Nat), cells + 3 * n23 ≤ 600000 → slots + 18 * n23 ≤ 7200000 → Wd g mm s H locs → lv_has ls 9 [(0, .ref b), (1, .ref (ad g 12 0)), (2, .ref (ad g 21 0)), (3, .ref (ad g 34 0)), (4, .int x4)] → jL_law_848 (lL_law_23 xs L n23) xs L x4 mm = some 1 → W p l e room_1 s m args below meth c H locs cells slots Q (F0 m 848 ls []) := by
      intro x4 mm H locs ls cells slots hc hs hW hl hf
      unfold jL_law_848 at hf
      refine lv_goto (tgt := 1569) hx hb dL_law_848 (by decide) ?_
      exact P_1569 _ _ _ _ _ _ _ (by omega) (by omega) hW (lv_sub hl [0, 1, 2, 3, 4] rfl) hf
    have P_779 : ∀ (x4 : Int32) (mm : gM) (H : Heap) (locs : List Loc) (ls : Array Slot) (cells slots : Nat), cells + 3 * n23 ≤ 600000 → slots + 18 * n23 ≤ 7200000 → Wd g mm s H locs → lv_has ls 9 [(0, .ref b), (1, .ref (ad g 12 0)), (2, .ref (ad g 21 0)), (3, .ref (ad g 34 0)), (4, .int x4)] → jL_law_779 (lL_law_23 xs L n23) xs L x4 mm = some 1 → W p l e room_1 s m args below meth c H locs cells slots Q (F0 m 779 ls []) := by
      intro x4 mm H locs ls cells slots hc hs hW hl hf
      unfold jL_law_779 at hf
      refine lv_goto (tgt := 1569) hx hb dL_law_779 (by decide) ?_
      exact P_1569 _ _ _ _ _ _ _ (by omega) (by omega) hW (lv_sub hl [0, 1, 2, 3, 4] rfl) hf
    have P_709 : ∀ (x4 : Int32) (mm : gM) (H : Heap) (locs : List Loc) (ls : Array Slot) (cells slots : Nat), cells + 3 * n23 ≤ 600000 → slots + 18 * n23 ≤ 7200000 → Wd g mm s H locs → lv_has ls 9 [(0, .ref b), (1, .ref (ad g 12 0)), (2, .ref (ad g 21 0)), (3, .ref (ad g 34 0)), (4, .int x4)] → jL_law_709 (lL_law_23 xs L n23) xs L x4 mm = some 1 → W p l e room_1 s m args below meth c H locs cells slots Q (F0 m 709 ls []) := by
      intro x4 mm H locs ls cells slots hc hs hW hl hf
      unfold jL_law_709 at hf
      refine lv_goto (tgt := 1569) hx hb dL_law_709 (by decide) ?_
      exact P_1569 _ _ _ _ _ _ _ (by omega) (by omega) hW (lv_sub hl [0, 1, 2, 3, 4] rfl) hf
    have P_653 : ∀ (x4 : Int32) (mm : gM) (H : Heap) (locs : List Loc) (ls : Array Slot) (cells slots : Nat), cells + 3 * n23 ≤ 600000 → slots + 18 * n23 ≤ 7200000 → Wd g mm s H locs → lv_has ls 9 [(0, .ref b), (1, .ref (ad g 12 0)), (2, .ref (ad g 21 0)), (3, .ref (ad g 34 0)), (4, .int x4)] → jL_law_653 (lL_law_23 xs L n23) xs L x4 mm = some 1 → W p l e room_1 s m args below meth c H locs cells slots Q (F0 m 653 ls []) := by
      intro x4 mm H locs ls cells slots hc hs hW hl hf
      unfold jL_law_653 at hf
      refine lv_goto (tgt := 1569) hx hb dL_law_653 (by decide) ?_
      exact P_1569 _ _ _ _ _ _ _ (by omega) (by omega) hW (lv_sub hl [0, 1, 2, 3, 4] rfl) hf
    have P_597 : ∀ (x4 : Int32) (mm : gM) (H : Heap) (locs : List Loc) (ls : Array Slot) (cells slots : Nat), cells + 3 * n23 ≤ 600000 → slots + 18 * n23 ≤ 7200000 → Wd g mm s H locs → lv_has ls 9 [(0, .ref b), (1, .ref (ad g 12 0)), (2, .ref (ad g 21 0)), (3, .ref (ad g 34 0)), (4, .int x4)] → jL_law_597 (lL_law_23 xs L n23) xs L x4 mm = some 1 → W p l e room_1 s m args below meth c H locs cells slots Q (F0 m 597 ls []) := by
      intro x4 mm H locs ls cells slots hc hs hW hl hf
      unfold jL_law_597 at hf
      refine lv_goto (tgt := 1569) hx hb dL_law_597 (by decide) ?_
      exact P_1569 _ _ _ _ _ _ _ (by omega) (by omega) hW (lv_sub hl [0, 1, 2, 3, 4] rfl) hf
    have P_529 : ∀ (x4 : Int32) (mm : gM) (H : Heap) (locs : List Loc) (ls : Array Slot) (cells slots : Nat), cells + 3 * n23 ≤ 600000 → slots + 18 * n23 ≤ 7200000 → Wd g mm s H locs → lv_has ls 9 [(0, .ref b), (1, .ref (ad g 12 0)), (2, .ref (ad g 21 0)), (3, .ref (ad g 34 0)), (4, .int x4)] → jL_law_529 (lL_law_23 xs L n23) xs L x4 mm = some 1 → W p l e room_1 s m args below meth c H locs cells slots Q (F0 m 529 ls []) := by
      intro x4 mm H locs ls cells slots hc hs hW hl hf
      unfold jL_law_529 at hf
      refine lv_goto (tgt := 1569) hx hb dL_law_529 (by decide) ?_
      exact P_1569 _ _ _ _ _ _ _ (by omega) (by omega) hW (lv_sub hl [0, 1, 2, 3, 4] rfl) hf
    have P_473 : ∀ (x4 : Int32) (mm : gM) (H : Heap) (locs : List Loc) (ls : Array Slot) (cells slots : Nat), cells + 3 * n23 ≤ 600000 → slots + 18 * n23 ≤ 7200000 → Wd g mm s H locs → lv_has ls 9 [(0, .ref b), (1, .ref (ad g 12 0)), (2, .ref (ad g 21 0)), (3, .ref (ad g 34 0)), (4, .int x4)] → jL_law_473 (lL_law_23 xs L n23) xs L x4 mm = some 1 → W p l e room_1 s m args below meth c H locs cells slots Q (F0 m 473 ls []) := by
      intro x4 mm H locs ls cells slots hc hs hW hl hf
      unfold jL_law_473 at hf
      refine lv_goto (tgt := 1569) hx hb dL_law_473 (by decide) ?_
      exact P_1569 _ _ _ _ _ _ _ (by omega) (by omega) hW (lv_sub hl [0, 1, 2, 3, 4] rfl) hf
    have P_405 : ∀ (x4 : Int32) (mm : gM) (H : Heap) (locs : List Loc) (ls : Array Slot) (cells slots : Nat), cells + 3 * n23 ≤ 600000 → slots + 18 * n23 ≤ 7200000 → Wd g mm s H locs → lv_has ls 9 [(0, .ref b), (1, .ref (ad g 12 0)), (2, .ref (ad g 21 0)), (3, .ref (ad g 34 0)), (4, .int x4)] → jL_law_405 (lL_law_23 xs L n23) xs L x4 mm = some 1 → W p l e room_1 s m args below meth c H locs cells slots Q (F0 m 405 ls []) := by
      intro x4 mm H locs ls cells slots hc hs hW hl hf
      unfold jL_law_405 at hf
      refine lv_goto (tgt := 1569) hx hb dL_law_405 (by decide) ?_
      exact P_1569 _ _ _ _ _ _ _ (by omega) (by omega) hW (lv_sub hl [0, 1, 2, 3, 4] rfl) hf
    have P_349 : ∀ (x4 : Int32) (mm : gM) (H : Heap) (locs : List Loc) (ls : Array Slot) (cells slots : Nat), cells + 3 * n23 ≤ 600000 → slots + 18 * n23 ≤ 7200000 → Wd g mm s H locs → lv_has ls 9 [(0, .ref b), (1, .ref (ad g 12 0)), (2, .ref (ad g 21 0)), (3, .ref (ad g 34 0)), (4, .int x4)] → jL_law_349 (lL_law_23 xs L n23) xs L x4 mm = some 1 → W p l e room_1 s m args below meth c H locs cells slots Q (F0 m 349 ls []) := by
      intro x4 mm H locs ls cells slots hc hs hW hl hf
      unfold jL_law_349 at hf
      refine lv_goto (tgt := 1569) hx hb dL_law_349 (by decide) ?_
      exact P_1569 _ _ _ _ _ _ _ (by omega) (by omega) hW (lv_sub hl [0, 1, 2, 3, 4] rfl) hf
    have P_281 : ∀ (x4 : Int32) (mm : gM) (H : Heap) (locs : List Loc) (ls : Array Slot) (cells slots : Nat), cells + 3 * n23 ≤ 600000 → slots + 18 * n23 ≤ 7200000 → Wd g mm s H locs → lv_has ls 9 [(0, .ref b), (1, .ref (ad g 12 0)), (2, .ref (ad g 21 0)), (3, .ref (ad g 34 0)), (4, .int x4)] → jL_law_281 (lL_law_23 xs L n23) xs L x4 mm = some 1 → W p l e room_1 s m args below meth c H locs cells slots Q (F0 m 281 ls []) := by
      intro x4 mm H locs ls cells slots hc hs hW hl hf
      unfold jL_law_281 at hf
      refine lv_goto (tgt := 1569) hx hb dL_law_281 (by decide) ?_
      exact P_1569 _ _ _ _ _ _ _ (by omega) (by omega) hW (lv_sub hl [0, 1, 2, 3, 4] rfl) hf
    have P_225 : ∀ (x4 : Int32) (mm : gM) (H : Heap) (locs : List Loc) (ls : Array Slot) (cells slots : Nat), cells + 3 * n23 ≤ 600000 → slots + 18 * n23 ≤ 7200000 → Wd g mm s H locs → lv_has ls 9 [(0, .ref b), (1, .ref (ad g 12 0)), (2, .ref (ad g 21 0)), (3, .ref (ad g 34 0)), (4, .int x4)] → jL_law_225 (lL_law_23 xs L n23) xs L x4 mm = some 1 → W p l e room_1 s m args below meth c H locs cells slots Q (F0 m 225 ls []) := by
      intro x4 mm H locs ls cells slots hc hs hW hl hf
      unfold jL_law_225 at hf
      refine lv_goto (tgt := 1569) hx hb dL_law_225 (by decide) ?_
      exact P_1569 _ _ _ _ _ _ _ (by omega) (by omega) hW (lv_sub hl [0, 1, 2, 3, 4] rfl) hf
    intro x4 mm H locs ls cells slots hc hs hW hl hf
    rw [lL_law_23_s] at hf
    refine lv_iload hx hb dL_law_23 (lv_at hl 4 rfl) ?_
    refine lv_aload_n hx hb dL_law_25 rfl (lv_at hl 0 rfl) ?_
    refine va_slen hx hb hX hbl hbA hW.2 dL_law_26 ?_
    refine lv_iconst (v := 4) hx hb dL_law_27 (by decide) ?_
    refine lv_isub hx hb dL_law_28 ?_
    refine lv_icmp_gt (tgt := 1575) hx hb dL_law_29 (by decide) (fun c408 => ?_) (fun c408 => ?_)
    · replace hf := ite_t hf c408
      refine lv_iconst (v := 1) hx hb dL_law_1575 (by decide) ?_
      exact hend _ _ _ _ _ _ dL_law_1576 hW.2.2.2 (by omega) (by omega)
    · replace hf := ite_f hf c408
      refine lv_aload_n hx hb dL_law_32 rfl (lv_at hl 0 rfl) ?_
      refine lv_iload hx hb dL_law_33 (lv_at hl 4 rfl) ?_
      obtain ⟨b1, hf⟩ := chk_ex hf
      refine va_sld hx hb hX hbl hbA hW.2 b1 dL_law_35 ?_
      refine lv_bipush (v := 31) hx hb dL_law_36 (by decide) ?_
      refine lv_iand hx hb dL_law_38 ?_
      by_cases c19 : ((xs x4.toNatClampNeg) &&& 31) = 0
      · replace hf := ite_t hf c19
        refine lv_tableIn (off := 121) (tgt := 160) hx hb dL_law_39 (by rw [c19]; decide) (by rw [c19]; decide) (by rw [c19]; rfl) (by decide) ?_
        refine lv_aload_n hx hb dL_law_160 rfl (lv_at hl 1 rfl) ?_
        refine lv_aload_n hx hb dL_law_161 rfl (lv_at hl 0 rfl) ?_
        refine lv_iload hx hb dL_law_162 (lv_at hl 4 rfl) ?_
        refine lv_iconst (v := 1) hx hb dL_law_164 (by decide) ?_
        refine lv_iadd hx hb dL_law_165 ?_
        obtain ⟨b2, hf⟩ := chk_ex hf
        refine va_sld hx hb hX hbl hbA hW.2 b2 dL_law_166 ?_
        refine lv_aload_n hx hb dL_law_167 rfl (lv_at hl 0 rfl) ?_
        refine lv_iload hx hb dL_law_168 (lv_at hl 4 rfl) ?_
        refine lv_iconst (v := 2) hx hb dL_law_170 (by decide) ?_
        refine lv_iadd hx hb dL_law_171 ?_
        obtain ⟨b3, hf⟩ := chk_ex hf
        refine va_sld hx hb hX hbl hbA hW.2 b3 dL_law_172 ?_
        refine lv_aload_n hx hb dL_law_173 rfl (lv_at hl 3 rfl) ?_
        obtain ⟨r5, m6, e4, hf⟩ := bn2_ex hf
        refine k_i X hW (k_SW (As := [.ref (ad g 12 0), .int (xs (x4 + 1).toNatClampNeg), .int (xs (x4 + 2).toNatClampNeg), .ref (ad g 34 0)]) (rest := []) X hW hml hl.1 (c_L_show l g hDW hst  _ _ mm _ _ e4) ⟨mw_629, kw_L_show⟩ ⟨⟨rfl, rfl⟩, ko_L_show, ⟨Nat.le_of_ble_eq_true rfl, Nat.le_of_ble_eq_true rfl⟩⟩ rfl rfl (Nat.le_of_ble_eq_true rfl) dL_law_174 ⟨by show _ ≤ 601024; omega, by show _ ≤ 7293034; omega⟩) (fun H locs hW => ?_)
        refine lv_istore (lv' := [(5, .int r5), (0, .ref b), (1, .ref (ad g 12 0)), (2, .ref (ad g 21 0)), (3, .ref (ad g 34 0)), (4, .int x4)]) hx hb dL_law_177 hl (by decide) rfl (fun ls hl => ?_)
        refine lv_aload_n hx hb dL_law_179 rfl (lv_at hl 3 rfl) ?_
        refine lv_aload_n hx hb dL_law_180 rfl (lv_at hl 1 rfl) ?_
        refine lv_iload hx hb dL_law_181 (lv_at hl 5 rfl) ?_
        refine lv_iconst (v := 1) hx hb dL_law_183 (by decide) ?_
        refine lv_iadd hx hb dL_law_184 ?_
        obtain ⟨b7, hf⟩ := chk_ex hf
        refine va_sld hx hb hX hbl hbA hW.2 b7 dL_law_185 ?_
        refine lv_aload_n hx hb dL_law_186 rfl (lv_at hl 1 rfl) ?_
        refine lv_iload hx hb dL_law_187 (lv_at hl 5 rfl) ?_
        refine lv_iconst (v := 2) hx hb dL_law_189 (by decide) ?_
        refine lv_iadd hx hb dL_law_190 ?_
        obtain ⟨b8, hf⟩ := chk_ex hf
        refine va_sld hx hb hX hbl hbA hW.2 b8 dL_law_191 ?_
        obtain ⟨r10, m11, e9, hf⟩ := bn2_ex hf
        refine k_i X hW (k_V (As := [.int (xs (x4 + 1).toNatClampNeg), .int (xs (x4 + 2).toNatClampNeg)]) (rest := []) X hW hml hl.1 (c_X6_show l g hDW  _ _ m6 _ _ e9) (r_recv X hW 21 0 (by decide) (by decide) rfl rfl) ⟨mw_1009, kw_X6_show⟩ ⟨⟨rfl, rfl⟩, ko_X6_show, ⟨Nat.le_of_ble_eq_true rfl, Nat.le_of_ble_eq_true rfl⟩⟩ rfl rfl (Nat.le_of_ble_eq_true rfl) dL_law_192 ⟨by show _ ≤ 601024; omega, by show _ ≤ 7293034; omega⟩) (fun H locs hW => ?_)
        refine lv_istore (lv' := [(6, .int r10), (5, .int r5), (0, .ref b), (1, .ref (ad g 12 0)), (2, .ref (ad g 21 0)), (3, .ref (ad g 34 0)), (4, .int x4)]) hx hb dL_law_195 hl (by decide) rfl (fun ls hl => ?_)
        refine lv_aload_n hx hb dL_law_197 rfl (lv_at hl 4 rfl) ?_
        obtain ⟨r13, e12, hf⟩ := bnd_ex hf
        refine k_i X hW (k_V (As := []) (rest := []) X hW hml hl.1 (c_X6_thrown l g hDW   m11 _ e12) (r_recv X hW 21 0 (by decide) (by decide) rfl rfl) ⟨mw_1005, kw_X6_thrown⟩ ⟨⟨rfl, rfl⟩, ko_X6_thrown, ⟨Nat.le_of_ble_eq_true rfl, Nat.le_of_ble_eq_true rfl⟩⟩ rfl rfl (Nat.le_of_ble_eq_true rfl) dL_law_198 ⟨by show _ ≤ 601024; omega, by show _ ≤ 7293034; omega⟩) (fun H locs hW => ?_)
        refine lv_iload hx hb dL_law_201 (lv_at hl 1 rfl) ?_
        refine lv_icmp_eq (tgt := 208) hx hb dL_law_203 (by decide) (fun c18 => ?_) (fun c18 => ?_)
        · replace hf := ite_t hf c18
          refine lv_iload hx hb dL_law_208 (lv_at hl 1 rfl) ?_
          refine lv_if_ne (tgt := 225) hx hb dL_law_210 (by decide) (fun c17 => ?_) (fun c17 => ?_)
          · replace hf := ite_f hf c17
            exact P_225 _ _ _ _ _ _ _ (by omega) (by omega) hW (lv_sub hl [2, 3, 4, 5, 6] rfl) hf
          · replace hf := ite_t hf c17
            refine lv_aload_n hx hb dL_law_213 rfl (lv_at hl 5 rfl) ?_
            refine lv_iconst (v := 0) hx hb dL_law_214 (by decide) ?_
            refine r_lald X hW vp01 dL_law_215 ?_
            refine lv_iload hx hb dL_law_216 (lv_at hl 0 rfl) ?_
            refine lv_i2l hx hb dL_law_218 (v := r10.toInt64) rfl ?_
            refine W.lcmp hx hb dL_law_219 ?_
            refine lv_if_eq (tgt := 225) hx hb dL_law_220 (by decide) (fun c16 => ?_) (fun c16 => ?_)
            · replace hf := ite_t hf c16
              exact P_225 _ _ _ _ _ _ _ (by omega) (by omega) hW (lv_sub hl [2, 3, 4, 5, 6] rfl) hf
            · replace hf := ite_f hf c16
              refine lv_iconst (v := 0) hx hb dL_law_223 (by decide) ?_
              exact absurd (someinj hf) (by decide)
        · replace hf := ite_f hf c18
          refine lv_iconst (v := 0) hx hb dL_law_206 (by decide) ?_
          exact absurd (someinj hf) (by decide)
      · replace hf := ite_f hf c19
        by_cases c35 : ((xs x4.toNatClampNeg) &&& 31) = 1
        · replace hf := ite_t hf c35
          refine lv_tableIn (off := 189) (tgt := 228) hx hb dL_law_39 (by rw [c35]; decide) (by rw [c35]; decide) (by rw [c35]; rfl) (by decide) ?_
          refine lv_aload_n hx hb dL_law_228 rfl (lv_at hl 1 rfl) ?_
          refine lv_aload_n hx hb dL_law_229 rfl (lv_at hl 0 rfl) ?_
          refine lv_iload hx hb dL_law_230 (lv_at hl 4 rfl) ?_
          refine lv_iconst (v := 1) hx hb dL_law_232 (by decide) ?_
          refine lv_iadd hx hb dL_law_233 ?_
          obtain ⟨b20, hf⟩ := chk_ex hf
          refine va_sld hx hb hX hbl hbA hW.2 b20 dL_law_234 ?_
          refine lv_aload_n hx hb dL_law_235 rfl (lv_at hl 3 rfl) ?_
          obtain ⟨r22, m23, e21, hf⟩ := bn2_ex hf
          refine k_i X hW (k_SW (As := [.ref (ad g 12 0), .int (xs (x4 + 1).toNatClampNeg), .ref (ad g 34 0)]) (rest := []) X hW hml hl.1 (c_L_dot l g hDW hst  _ mm _ _ e21) ⟨mw_728, kw_L_dot⟩ ⟨⟨rfl, rfl⟩, ko_L_dot, ⟨Nat.le_of_ble_eq_true rfl, Nat.le_of_ble_eq_true rfl⟩⟩ rfl rfl (Nat.le_of_ble_eq_true rfl) dL_law_236 ⟨by show _ ≤ 601024; omega, by show _ ≤ 7293034; omega⟩) (fun H locs hW => ?_)
          refine lv_istore (lv' := [(5, .int r22), (0, .ref b), (1, .ref (ad g 12 0)), (2, .ref (ad g 21 0)), (3, .ref (ad g 34 0)), (4, .int x4)]) hx hb dL_law_239 hl (by decide) rfl (fun ls hl => ?_)
          refine lv_aload_n hx hb dL_law_241 rfl (lv_at hl 3 rfl) ?_
          refine lv_aload_n hx hb dL_law_242 rfl (lv_at hl 1 rfl) ?_
          refine lv_iload hx hb dL_law_243 (lv_at hl 5 rfl) ?_
          refine lv_iconst (v := 1) hx hb dL_law_245 (by decide) ?_
          refine lv_iadd hx hb dL_law_246 ?_
          obtain ⟨b24, hf⟩ := chk_ex hf
          refine va_sld hx hb hX hbl hbA hW.2 b24 dL_law_247 ?_
          obtain ⟨r26, m27, e25, hf⟩ := bn2_ex hf
          refine k_i X hW (k_V (As := [.int (xs (x4 + 1).toNatClampNeg)]) (rest := []) X hW hml hl.1 (c_X6_dot l g hDW  _ m23 _ _ e25) (r_recv X hW 21 0 (by decide) (by decide) rfl rfl) ⟨mw_1031, kw_X6_dot⟩ ⟨⟨rfl, rfl⟩, ko_X6_dot, ⟨Nat.le_of_ble_eq_true rfl, Nat.le_of_ble_eq_true rfl⟩⟩ rfl rfl (Nat.le_of_ble_eq_true rfl) dL_law_248 ⟨by show _ ≤ 601024; omega, by show _ ≤ 7293034; omega⟩) (fun H locs hW => ?_)
          refine lv_istore (lv' := [(6, .int r26), (5, .int r22), (0, .ref b), (1, .ref (ad g 12 0)), (2, .ref (ad g 21 0)), (3, .ref (ad g 34 0)), (4, .int x4)]) hx hb dL_law_251 hl (by decide) rfl (fun ls hl => ?_)
          refine lv_aload_n hx hb dL_law_253 rfl (lv_at hl 4 rfl) ?_
          obtain ⟨r29, e28, hf⟩ := bnd_ex hf
          refine k_i X hW (k_V (As := []) (rest := []) X hW hml hl.1 (c_X6_thrown l g hDW   m27 _ e28) (r_recv X hW 21 0 (by decide) (by decide) rfl rfl) ⟨mw_1005, kw_X6_thrown⟩ ⟨⟨rfl, rfl⟩, ko_X6_thrown, ⟨Nat.le_of_ble_eq_true rfl, Nat.le_of_ble_eq_true rfl⟩⟩ rfl rfl (Nat.le_of_ble_eq_true rfl) dL_law_254 ⟨by show _ ≤ 601024; omega, by show _ ≤ 7293034; omega⟩) (fun H locs hW => ?_)
          refine lv_iload hx hb dL_law_257 (lv_at hl 1 rfl) ?_
          refine lv_icmp_eq (tgt := 264) hx hb dL_law_259 (by decide) (fun c34 => ?_) (fun c34 => ?_)
          · replace hf := ite_t hf c34
            refine lv_iload hx hb dL_law_264 (lv_at hl 1 rfl) ?_
            refine lv_if_ne (tgt := 281) hx hb dL_law_266 (by decide) (fun c33 => ?_) (fun c33 => ?_)
            · replace hf := ite_f hf c33
              exact P_281 _ _ _ _ _ _ _ (by omega) (by omega) hW (lv_sub hl [2, 3, 4, 5, 6] rfl) hf
            · replace hf := ite_t hf c33
              refine lv_aload_n hx hb dL_law_269 rfl (lv_at hl 5 rfl) ?_
              refine lv_iconst (v := 0) hx hb dL_law_270 (by decide) ?_
              refine r_lald X hW vp01 dL_law_271 ?_
              refine lv_iload hx hb dL_law_272 (lv_at hl 0 rfl) ?_
              refine lv_i2l hx hb dL_law_274 (v := r26.toInt64) rfl ?_
              refine W.lcmp hx hb dL_law_275 ?_
              refine lv_if_eq (tgt := 281) hx hb dL_law_276 (by decide) (fun c32 => ?_) (fun c32 => ?_)
              · replace hf := ite_t hf c32
                exact P_281 _ _ _ _ _ _ _ (by omega) (by omega) hW (lv_sub hl [2, 3, 4, 5, 6] rfl) hf
              · replace hf := ite_f hf c32
                refine lv_iconst (v := 0) hx hb dL_law_279 (by decide) ?_
                exact absurd (someinj hf) (by decide)
          · replace hf := ite_f hf c34
            refine lv_iconst (v := 0) hx hb dL_law_262 (by decide) ?_
            exact absurd (someinj hf) (by decide)
        · replace hf := ite_f hf c35
          by_cases c53 : ((xs x4.toNatClampNeg) &&& 31) = 2
          · replace hf := ite_t hf c53
            refine lv_tableIn (off := 245) (tgt := 284) hx hb dL_law_39 (by rw [c53]; decide) (by rw [c53]; decide) (by rw [c53]; rfl) (by decide) ?_
            refine lv_aload_n hx hb dL_law_284 rfl (lv_at hl 1 rfl) ?_
            refine lv_aload_n hx hb dL_law_285 rfl (lv_at hl 0 rfl) ?_
            refine lv_iload hx hb dL_law_286 (lv_at hl 4 rfl) ?_
            refine lv_iconst (v := 1) hx hb dL_law_288 (by decide) ?_
            refine lv_iadd hx hb dL_law_289 ?_
            obtain ⟨b36, hf⟩ := chk_ex hf
            refine va_sld hx hb hX hbl hbA hW.2 b36 dL_law_290 ?_
            refine lv_aload_n hx hb dL_law_291 rfl (lv_at hl 0 rfl) ?_
            refine lv_iload hx hb dL_law_292 (lv_at hl 4 rfl) ?_
            refine lv_iconst (v := 2) hx hb dL_law_294 (by decide) ?_
            refine lv_iadd hx hb dL_law_295 ?_
            obtain ⟨b37, hf⟩ := chk_ex hf
            refine va_sld hx hb hX hbl hbA hW.2 b37 dL_law_296 ?_
            refine lv_aload_n hx hb dL_law_297 rfl (lv_at hl 3 rfl) ?_
            obtain ⟨r39, m40, e38, hf⟩ := bn2_ex hf
            refine k_i X hW (k_SW (As := [.ref (ad g 12 0), .int (xs (x4 + 1).toNatClampNeg), .int (xs (x4 + 2).toNatClampNeg), .ref (ad g 34 0)]) (rest := []) X hW hml hl.1 (c_L_burn l g hDW hst  _ _ mm _ _ e38) ⟨mw_735, kw_L_burn⟩ ⟨⟨rfl, rfl⟩, ko_L_burn, ⟨Nat.le_of_ble_eq_true rfl, Nat.le_of_ble_eq_true rfl⟩⟩ rfl rfl (Nat.le_of_ble_eq_true rfl) dL_law_298 ⟨by show _ ≤ 601024; omega, by show _ ≤ 7293034; omega⟩) (fun H locs hW => ?_)
            refine lv_istore (lv' := [(5, .int r39), (0, .ref b), (1, .ref (ad g 12 0)), (2, .ref (ad g 21 0)), (3, .ref (ad g 34 0)), (4, .int x4)]) hx hb dL_law_301 hl (by decide) rfl (fun ls hl => ?_)
            refine lv_aload_n hx hb dL_law_303 rfl (lv_at hl 3 rfl) ?_
            refine lv_aload_n hx hb dL_law_304 rfl (lv_at hl 1 rfl) ?_
            refine lv_iload hx hb dL_law_305 (lv_at hl 5 rfl) ?_
            refine lv_iconst (v := 1) hx hb dL_law_307 (by decide) ?_
            refine lv_iadd hx hb dL_law_308 ?_
            obtain ⟨b41, hf⟩ := chk_ex hf
            refine va_sld hx hb hX hbl hbA hW.2 b41 dL_law_309 ?_
            refine lv_aload_n hx hb dL_law_310 rfl (lv_at hl 1 rfl) ?_
            refine lv_iload hx hb dL_law_311 (lv_at hl 5 rfl) ?_
            refine lv_iconst (v := 2) hx hb dL_law_313 (by decide) ?_
            refine lv_iadd hx hb dL_law_314 ?_
            obtain ⟨b42, hf⟩ := chk_ex hf
            refine va_sld hx hb hX hbl hbA hW.2 b42 dL_law_315 ?_
            obtain ⟨r44, m45, e43, hf⟩ := bn2_ex hf
            refine k_i X hW (k_V (As := [.int (xs (x4 + 1).toNatClampNeg), .int (xs (x4 + 2).toNatClampNeg)]) (rest := []) X hW hml hl.1 (c_X6_burn l g hDW  _ _ m40 _ _ e43) (r_recv X hW 21 0 (by decide) (by decide) rfl rfl) ⟨mw_1035, kw_X6_burn⟩ ⟨⟨rfl, rfl⟩, ko_X6_burn, ⟨Nat.le_of_ble_eq_true rfl, Nat.le_of_ble_eq_true rfl⟩⟩ rfl rfl (Nat.le_of_ble_eq_true rfl) dL_law_316 ⟨by show _ ≤ 601024; omega, by show _ ≤ 7293034; omega⟩) (fun H locs hW => ?_)
            refine lv_istore (lv' := [(6, .int r44), (5, .int r39), (0, .ref b), (1, .ref (ad g 12 0)), (2, .ref (ad g 21 0)), (3, .ref (ad g 34 0)), (4, .int x4)]) hx hb dL_law_319 hl (by decide) rfl (fun ls hl => ?_)
            refine lv_aload_n hx hb dL_law_321 rfl (lv_at hl 4 rfl) ?_
            obtain ⟨r47, e46, hf⟩ := bnd_ex hf
            refine k_i X hW (k_V (As := []) (rest := []) X hW hml hl.1 (c_X6_thrown l g hDW   m45 _ e46) (r_recv X hW 21 0 (by decide) (by decide) rfl rfl) ⟨mw_1005, kw_X6_thrown⟩ ⟨⟨rfl, rfl⟩, ko_X6_thrown, ⟨Nat.le_of_ble_eq_true rfl, Nat.le_of_ble_eq_true rfl⟩⟩ rfl rfl (Nat.le_of_ble_eq_true rfl) dL_law_322 ⟨by show _ ≤ 601024; omega, by show _ ≤ 7293034; omega⟩) (fun H locs hW => ?_)
            refine lv_iload hx hb dL_law_325 (lv_at hl 1 rfl) ?_
            refine lv_icmp_eq (tgt := 332) hx hb dL_law_327 (by decide) (fun c52 => ?_) (fun c52 => ?_)
            · replace hf := ite_t hf c52
              refine lv_iload hx hb dL_law_332 (lv_at hl 1 rfl) ?_
              refine lv_if_ne (tgt := 349) hx hb dL_law_334 (by decide) (fun c51 => ?_) (fun c51 => ?_)
              · replace hf := ite_f hf c51
                exact P_349 _ _ _ _ _ _ _ (by omega) (by omega) hW (lv_sub hl [2, 3, 4, 5, 6] rfl) hf
              · replace hf := ite_t hf c51
                refine lv_aload_n hx hb dL_law_337 rfl (lv_at hl 5 rfl) ?_
                refine lv_iconst (v := 0) hx hb dL_law_338 (by decide) ?_
                refine r_lald X hW vp01 dL_law_339 ?_
                refine lv_iload hx hb dL_law_340 (lv_at hl 0 rfl) ?_
                refine lv_i2l hx hb dL_law_342 (v := r44.toInt64) rfl ?_
                refine W.lcmp hx hb dL_law_343 ?_
                refine lv_if_eq (tgt := 349) hx hb dL_law_344 (by decide) (fun c50 => ?_) (fun c50 => ?_)
                · replace hf := ite_t hf c50
                  exact P_349 _ _ _ _ _ _ _ (by omega) (by omega) hW (lv_sub hl [2, 3, 4, 5, 6] rfl) hf
                · replace hf := ite_f hf c50
                  refine lv_iconst (v := 0) hx hb dL_law_347 (by decide) ?_
                  exact absurd (someinj hf) (by decide)
            · replace hf := ite_f hf c52
              refine lv_iconst (v := 0) hx hb dL_law_330 (by decide) ?_
              exact absurd (someinj hf) (by decide)
          · replace hf := ite_f hf c53
            by_cases c69 : ((xs x4.toNatClampNeg) &&& 31) = 3
            · replace hf := ite_t hf c69
              refine lv_tableIn (off := 313) (tgt := 352) hx hb dL_law_39 (by rw [c69]; decide) (by rw [c69]; decide) (by rw [c69]; rfl) (by decide) ?_
              refine lv_aload_n hx hb dL_law_352 rfl (lv_at hl 1 rfl) ?_
              refine lv_aload_n hx hb dL_law_353 rfl (lv_at hl 0 rfl) ?_
              refine lv_iload hx hb dL_law_354 (lv_at hl 4 rfl) ?_
              refine lv_iconst (v := 1) hx hb dL_law_356 (by decide) ?_
              refine lv_iadd hx hb dL_law_357 ?_
              obtain ⟨b54, hf⟩ := chk_ex hf
              refine va_sld hx hb hX hbl hbA hW.2 b54 dL_law_358 ?_
              refine lv_aload_n hx hb dL_law_359 rfl (lv_at hl 3 rfl) ?_
              obtain ⟨r56, m57, e55, hf⟩ := bn2_ex hf
              refine k_i X hW (k_SW (As := [.ref (ad g 12 0), .int (xs (x4 + 1).toNatClampNeg), .ref (ad g 34 0)]) (rest := []) X hW hml hl.1 (c_L_cut l g hDW hst  _ mm _ _ e55) ⟨mw_746, kw_L_cut⟩ ⟨⟨rfl, rfl⟩, ko_L_cut, ⟨Nat.le_of_ble_eq_true rfl, Nat.le_of_ble_eq_true rfl⟩⟩ rfl rfl (Nat.le_of_ble_eq_true rfl) dL_law_360 ⟨by show _ ≤ 601024; omega, by show _ ≤ 7293034; omega⟩) (fun H locs hW => ?_)
              refine lv_istore (lv' := [(5, .int r56), (0, .ref b), (1, .ref (ad g 12 0)), (2, .ref (ad g 21 0)), (3, .ref (ad g 34 0)), (4, .int x4)]) hx hb dL_law_363 hl (by decide) rfl (fun ls hl => ?_)
              refine lv_aload_n hx hb dL_law_365 rfl (lv_at hl 3 rfl) ?_
              refine lv_aload_n hx hb dL_law_366 rfl (lv_at hl 1 rfl) ?_
              refine lv_iload hx hb dL_law_367 (lv_at hl 5 rfl) ?_
              refine lv_iconst (v := 1) hx hb dL_law_369 (by decide) ?_
              refine lv_iadd hx hb dL_law_370 ?_
              obtain ⟨b58, hf⟩ := chk_ex hf
              refine va_sld hx hb hX hbl hbA hW.2 b58 dL_law_371 ?_
              obtain ⟨r60, m61, e59, hf⟩ := bn2_ex hf
              refine k_i X hW (k_V (As := [.int (xs (x4 + 1).toNatClampNeg)]) (rest := []) X hW hml hl.1 (c_X6_cut l g hDW  _ m57 _ _ e59) (r_recv X hW 21 0 (by decide) (by decide) rfl rfl) ⟨mw_1042, kw_X6_cut⟩ ⟨⟨rfl, rfl⟩, ko_X6_cut, ⟨Nat.le_of_ble_eq_true rfl, Nat.le_of_ble_eq_true rfl⟩⟩ rfl rfl (Nat.le_of_ble_eq_true rfl) dL_law_372 ⟨by show _ ≤ 601024; omega, by show _ ≤ 7293034; omega⟩) (fun H locs hW => ?_)
              refine lv_istore (lv' := [(6, .int r60), (5, .int r56), (0, .ref b), (1, .ref (ad g 12 0)), (2, .ref (ad g 21 0)), (3, .ref (ad g 34 0)), (4, .int x4)]) hx hb dL_law_375 hl (by decide) rfl (fun ls hl => ?_)
              refine lv_aload_n hx hb dL_law_377 rfl (lv_at hl 4 rfl) ?_
              obtain ⟨r63, e62, hf⟩ := bnd_ex hf
              refine k_i X hW (k_V (As := []) (rest := []) X hW hml hl.1 (c_X6_thrown l g hDW   m61 _ e62) (r_recv X hW 21 0 (by decide) (by decide) rfl rfl) ⟨mw_1005, kw_X6_thrown⟩ ⟨⟨rfl, rfl⟩, ko_X6_thrown, ⟨Nat.le_of_ble_eq_true rfl, Nat.le_of_ble_eq_true rfl⟩⟩ rfl rfl (Nat.le_of_ble_eq_true rfl) dL_law_378 ⟨by show _ ≤ 601024; omega, by show _ ≤ 7293034; omega⟩) (fun H locs hW => ?_)
              refine lv_iload hx hb dL_law_381 (lv_at hl 1 rfl) ?_
              refine lv_icmp_eq (tgt := 388) hx hb dL_law_383 (by decide) (fun c68 => ?_) (fun c68 => ?_)
              · replace hf := ite_t hf c68
                refine lv_iload hx hb dL_law_388 (lv_at hl 1 rfl) ?_
                refine lv_if_ne (tgt := 405) hx hb dL_law_390 (by decide) (fun c67 => ?_) (fun c67 => ?_)
                · replace hf := ite_f hf c67
                  exact P_405 _ _ _ _ _ _ _ (by omega) (by omega) hW (lv_sub hl [2, 3, 4, 5, 6] rfl) hf
                · replace hf := ite_t hf c67
                  refine lv_aload_n hx hb dL_law_393 rfl (lv_at hl 5 rfl) ?_
                  refine lv_iconst (v := 0) hx hb dL_law_394 (by decide) ?_
                  refine r_lald X hW vp01 dL_law_395 ?_
                  refine lv_iload hx hb dL_law_396 (lv_at hl 0 rfl) ?_
                  refine lv_i2l hx hb dL_law_398 (v := r60.toInt64) rfl ?_
                  refine W.lcmp hx hb dL_law_399 ?_
                  refine lv_if_eq (tgt := 405) hx hb dL_law_400 (by decide) (fun c66 => ?_) (fun c66 => ?_)
                  · replace hf := ite_t hf c66
                    exact P_405 _ _ _ _ _ _ _ (by omega) (by omega) hW (lv_sub hl [2, 3, 4, 5, 6] rfl) hf
                  · replace hf := ite_f hf c66
                    refine lv_iconst (v := 0) hx hb dL_law_403 (by decide) ?_
                    exact absurd (someinj hf) (by decide)
              · replace hf := ite_f hf c68
                refine lv_iconst (v := 0) hx hb dL_law_386 (by decide) ?_
                exact absurd (someinj hf) (by decide)
            · replace hf := ite_f hf c69
              by_cases c87 : ((xs x4.toNatClampNeg) &&& 31) = 4
              · replace hf := ite_t hf c87
                refine lv_tableIn (off := 369) (tgt := 408) hx hb dL_law_39 (by rw [c87]; decide) (by rw [c87]; decide) (by rw [c87]; rfl) (by decide) ?_
                refine lv_aload_n hx hb dL_law_408 rfl (lv_at hl 1 rfl) ?_
                refine lv_aload_n hx hb dL_law_409 rfl (lv_at hl 0 rfl) ?_
                refine lv_iload hx hb dL_law_410 (lv_at hl 4 rfl) ?_
                refine lv_iconst (v := 1) hx hb dL_law_412 (by decide) ?_
                refine lv_iadd hx hb dL_law_413 ?_
                obtain ⟨b70, hf⟩ := chk_ex hf
                refine va_sld hx hb hX hbl hbA hW.2 b70 dL_law_414 ?_
                refine lv_aload_n hx hb dL_law_415 rfl (lv_at hl 0 rfl) ?_
                refine lv_iload hx hb dL_law_416 (lv_at hl 4 rfl) ?_
                refine lv_iconst (v := 2) hx hb dL_law_418 (by decide) ?_
                refine lv_iadd hx hb dL_law_419 ?_
                obtain ⟨b71, hf⟩ := chk_ex hf
                refine va_sld hx hb hX hbl hbA hW.2 b71 dL_law_420 ?_
                refine lv_aload_n hx hb dL_law_421 rfl (lv_at hl 3 rfl) ?_
                obtain ⟨r73, m74, e72, hf⟩ := bn2_ex hf
                refine k_i X hW (k_SW (As := [.ref (ad g 12 0), .int (xs (x4 + 1).toNatClampNeg), .int (xs (x4 + 2).toNatClampNeg), .ref (ad g 34 0)]) (rest := []) X hW hml hl.1 (c_L_time l g hDW hst  _ _ mm _ _ e72) ⟨mw_753, kw_L_time⟩ ⟨⟨rfl, rfl⟩, ko_L_time, ⟨Nat.le_of_ble_eq_true rfl, Nat.le_of_ble_eq_true rfl⟩⟩ rfl rfl (Nat.le_of_ble_eq_true rfl) dL_law_422 ⟨by show _ ≤ 601024; omega, by show _ ≤ 7293034; omega⟩) (fun H locs hW => ?_)
                refine lv_istore (lv' := [(5, .int r73), (0, .ref b), (1, .ref (ad g 12 0)), (2, .ref (ad g 21 0)), (3, .ref (ad g 34 0)), (4, .int x4)]) hx hb dL_law_425 hl (by decide) rfl (fun ls hl => ?_)
                refine lv_aload_n hx hb dL_law_427 rfl (lv_at hl 3 rfl) ?_
                refine lv_aload_n hx hb dL_law_428 rfl (lv_at hl 1 rfl) ?_
                refine lv_iload hx hb dL_law_429 (lv_at hl 5 rfl) ?_
                refine lv_iconst (v := 1) hx hb dL_law_431 (by decide) ?_
                refine lv_iadd hx hb dL_law_432 ?_
                obtain ⟨b75, hf⟩ := chk_ex hf
                refine va_sld hx hb hX hbl hbA hW.2 b75 dL_law_433 ?_
                refine lv_aload_n hx hb dL_law_434 rfl (lv_at hl 1 rfl) ?_
                refine lv_iload hx hb dL_law_435 (lv_at hl 5 rfl) ?_
                refine lv_iconst (v := 2) hx hb dL_law_437 (by decide) ?_
                refine lv_iadd hx hb dL_law_438 ?_
                obtain ⟨b76, hf⟩ := chk_ex hf
                refine va_sld hx hb hX hbl hbA hW.2 b76 dL_law_439 ?_
                obtain ⟨r78, m79, e77, hf⟩ := bn2_ex hf
                refine k_i X hW (k_V (As := [.int (xs (x4 + 1).toNatClampNeg), .int (xs (x4 + 2).toNatClampNeg)]) (rest := []) X hW hml hl.1 (c_X6_time l g hDW  _ _ m74 _ _ e77) (r_recv X hW 21 0 (by decide) (by decide) rfl rfl) ⟨mw_1046, kw_X6_time⟩ ⟨⟨rfl, rfl⟩, ko_X6_time, ⟨Nat.le_of_ble_eq_true rfl, Nat.le_of_ble_eq_true rfl⟩⟩ rfl rfl (Nat.le_of_ble_eq_true rfl) dL_law_440 ⟨by show _ ≤ 601024; omega, by show _ ≤ 7293034; omega⟩) (fun H locs hW => ?_)
                refine lv_istore (lv' := [(6, .int r78), (5, .int r73), (0, .ref b), (1, .ref (ad g 12 0)), (2, .ref (ad g 21 0)), (3, .ref (ad g 34 0)), (4, .int x4)]) hx hb dL_law_443 hl (by decide) rfl (fun ls hl => ?_)
                refine lv_aload_n hx hb dL_law_445 rfl (lv_at hl 4 rfl) ?_
                obtain ⟨r81, e80, hf⟩ := bnd_ex hf
                refine k_i X hW (k_V (As := []) (rest := []) X hW hml hl.1 (c_X6_thrown l g hDW   m79 _ e80) (r_recv X hW 21 0 (by decide) (by decide) rfl rfl) ⟨mw_1005, kw_X6_thrown⟩ ⟨⟨rfl, rfl⟩, ko_X6_thrown, ⟨Nat.le_of_ble_eq_true rfl, Nat.le_of_ble_eq_true rfl⟩⟩ rfl rfl (Nat.le_of_ble_eq_true rfl) dL_law_446 ⟨by show _ ≤ 601024; omega, by show _ ≤ 7293034; omega⟩) (fun H locs hW => ?_)
                refine lv_iload hx hb dL_law_449 (lv_at hl 1 rfl) ?_
                refine lv_icmp_eq (tgt := 456) hx hb dL_law_451 (by decide) (fun c86 => ?_) (fun c86 => ?_)
                · replace hf := ite_t hf c86
                  refine lv_iload hx hb dL_law_456 (lv_at hl 1 rfl) ?_
                  refine lv_if_ne (tgt := 473) hx hb dL_law_458 (by decide) (fun c85 => ?_) (fun c85 => ?_)
                  · replace hf := ite_f hf c85
                    exact P_473 _ _ _ _ _ _ _ (by omega) (by omega) hW (lv_sub hl [2, 3, 4, 5, 6] rfl) hf
                  · replace hf := ite_t hf c85
                    refine lv_aload_n hx hb dL_law_461 rfl (lv_at hl 5 rfl) ?_
                    refine lv_iconst (v := 0) hx hb dL_law_462 (by decide) ?_
                    refine r_lald X hW vp01 dL_law_463 ?_
                    refine lv_iload hx hb dL_law_464 (lv_at hl 0 rfl) ?_
                    refine lv_i2l hx hb dL_law_466 (v := r78.toInt64) rfl ?_
                    refine W.lcmp hx hb dL_law_467 ?_
                    refine lv_if_eq (tgt := 473) hx hb dL_law_468 (by decide) (fun c84 => ?_) (fun c84 => ?_)
                    · replace hf := ite_t hf c84
                      exact P_473 _ _ _ _ _ _ _ (by omega) (by omega) hW (lv_sub hl [2, 3, 4, 5, 6] rfl) hf
                    · replace hf := ite_f hf c84
                      refine lv_iconst (v := 0) hx hb dL_law_471 (by decide) ?_
                      exact absurd (someinj hf) (by decide)
                · replace hf := ite_f hf c86
                  refine lv_iconst (v := 0) hx hb dL_law_454 (by decide) ?_
                  exact absurd (someinj hf) (by decide)
              · replace hf := ite_f hf c87
                by_cases c103 : ((xs x4.toNatClampNeg) &&& 31) = 5
                · replace hf := ite_t hf c103
                  refine lv_tableIn (off := 437) (tgt := 476) hx hb dL_law_39 (by rw [c103]; decide) (by rw [c103]; decide) (by rw [c103]; rfl) (by decide) ?_
                  refine lv_aload_n hx hb dL_law_476 rfl (lv_at hl 1 rfl) ?_
                  refine lv_aload_n hx hb dL_law_477 rfl (lv_at hl 0 rfl) ?_
                  refine lv_iload hx hb dL_law_478 (lv_at hl 4 rfl) ?_
                  refine lv_iconst (v := 1) hx hb dL_law_480 (by decide) ?_
                  refine lv_iadd hx hb dL_law_481 ?_
                  obtain ⟨b88, hf⟩ := chk_ex hf
                  refine va_sld hx hb hX hbl hbA hW.2 b88 dL_law_482 ?_
                  refine lv_aload_n hx hb dL_law_483 rfl (lv_at hl 3 rfl) ?_
                  obtain ⟨r90, m91, e89, hf⟩ := bn2_ex hf
                  refine k_i X hW (k_SW (As := [.ref (ad g 12 0), .int (xs (x4 + 1).toNatClampNeg), .ref (ad g 34 0)]) (rest := []) X hW hml hl.1 (c_L_balance l g hDW hst  _ mm _ _ e89) ⟨mw_764, kw_L_balance⟩ ⟨⟨rfl, rfl⟩, ko_L_balance, ⟨Nat.le_of_ble_eq_true rfl, Nat.le_of_ble_eq_true rfl⟩⟩ rfl rfl (Nat.le_of_ble_eq_true rfl) dL_law_484 ⟨by show _ ≤ 601024; omega, by show _ ≤ 7293034; omega⟩) (fun H locs hW => ?_)
                  refine lv_istore (lv' := [(5, .int r90), (0, .ref b), (1, .ref (ad g 12 0)), (2, .ref (ad g 21 0)), (3, .ref (ad g 34 0)), (4, .int x4)]) hx hb dL_law_487 hl (by decide) rfl (fun ls hl => ?_)
                  refine lv_aload_n hx hb dL_law_489 rfl (lv_at hl 3 rfl) ?_
                  refine lv_aload_n hx hb dL_law_490 rfl (lv_at hl 1 rfl) ?_
                  refine lv_iload hx hb dL_law_491 (lv_at hl 5 rfl) ?_
                  refine lv_iconst (v := 1) hx hb dL_law_493 (by decide) ?_
                  refine lv_iadd hx hb dL_law_494 ?_
                  obtain ⟨b92, hf⟩ := chk_ex hf
                  refine va_sld hx hb hX hbl hbA hW.2 b92 dL_law_495 ?_
                  obtain ⟨r94, m95, e93, hf⟩ := bn2_ex hf
                  refine k_i X hW (k_V (As := [.int (xs (x4 + 1).toNatClampNeg)]) (rest := []) X hW hml hl.1 (c_X6_balance l g hDW  _ m91 _ _ e93) (r_recv X hW 21 0 (by decide) (by decide) rfl rfl) ⟨mw_1050, kw_X6_balance⟩ ⟨⟨rfl, rfl⟩, ko_X6_balance, ⟨Nat.le_of_ble_eq_true rfl, Nat.le_of_ble_eq_true rfl⟩⟩ rfl rfl (Nat.le_of_ble_eq_true rfl) dL_law_496 ⟨by show _ ≤ 601024; omega, by show _ ≤ 7293034; omega⟩) (fun H locs hW => ?_)
                  refine lv_istore (lv' := [(6, .int r94), (5, .int r90), (0, .ref b), (1, .ref (ad g 12 0)), (2, .ref (ad g 21 0)), (3, .ref (ad g 34 0)), (4, .int x4)]) hx hb dL_law_499 hl (by decide) rfl (fun ls hl => ?_)
                  refine lv_aload_n hx hb dL_law_501 rfl (lv_at hl 4 rfl) ?_
                  obtain ⟨r97, e96, hf⟩ := bnd_ex hf
                  refine k_i X hW (k_V (As := []) (rest := []) X hW hml hl.1 (c_X6_thrown l g hDW   m95 _ e96) (r_recv X hW 21 0 (by decide) (by decide) rfl rfl) ⟨mw_1005, kw_X6_thrown⟩ ⟨⟨rfl, rfl⟩, ko_X6_thrown, ⟨Nat.le_of_ble_eq_true rfl, Nat.le_of_ble_eq_true rfl⟩⟩ rfl rfl (Nat.le_of_ble_eq_true rfl) dL_law_502 ⟨by show _ ≤ 601024; omega, by show _ ≤ 7293034; omega⟩) (fun H locs hW => ?_)
                  refine lv_iload hx hb dL_law_505 (lv_at hl 1 rfl) ?_
                  refine lv_icmp_eq (tgt := 512) hx hb dL_law_507 (by decide) (fun c102 => ?_) (fun c102 => ?_)
                  · replace hf := ite_t hf c102
                    refine lv_iload hx hb dL_law_512 (lv_at hl 1 rfl) ?_
                    refine lv_if_ne (tgt := 529) hx hb dL_law_514 (by decide) (fun c101 => ?_) (fun c101 => ?_)
                    · replace hf := ite_f hf c101
                      exact P_529 _ _ _ _ _ _ _ (by omega) (by omega) hW (lv_sub hl [2, 3, 4, 5, 6] rfl) hf
                    · replace hf := ite_t hf c101
                      refine lv_aload_n hx hb dL_law_517 rfl (lv_at hl 5 rfl) ?_
                      refine lv_iconst (v := 0) hx hb dL_law_518 (by decide) ?_
                      refine r_lald X hW vp01 dL_law_519 ?_
                      refine lv_iload hx hb dL_law_520 (lv_at hl 0 rfl) ?_
                      refine lv_i2l hx hb dL_law_522 (v := r94.toInt64) rfl ?_
                      refine W.lcmp hx hb dL_law_523 ?_
                      refine lv_if_eq (tgt := 529) hx hb dL_law_524 (by decide) (fun c100 => ?_) (fun c100 => ?_)
                      · replace hf := ite_t hf c100
                        exact P_529 _ _ _ _ _ _ _ (by omega) (by omega) hW (lv_sub hl [2, 3, 4, 5, 6] rfl) hf
                      · replace hf := ite_f hf c100
                        refine lv_iconst (v := 0) hx hb dL_law_527 (by decide) ?_
                        exact absurd (someinj hf) (by decide)
                  · replace hf := ite_f hf c102
                    refine lv_iconst (v := 0) hx hb dL_law_510 (by decide) ?_
                    exact absurd (someinj hf) (by decide)
                · replace hf := ite_f hf c103
                  by_cases c121 : ((xs x4.toNatClampNeg) &&& 31) = 6
                  · replace hf := ite_t hf c121
                    refine lv_tableIn (off := 493) (tgt := 532) hx hb dL_law_39 (by rw [c121]; decide) (by rw [c121]; decide) (by rw [c121]; rfl) (by decide) ?_
                    refine lv_aload_n hx hb dL_law_532 rfl (lv_at hl 1 rfl) ?_
                    refine lv_aload_n hx hb dL_law_533 rfl (lv_at hl 0 rfl) ?_
                    refine lv_iload hx hb dL_law_534 (lv_at hl 4 rfl) ?_
                    refine lv_iconst (v := 1) hx hb dL_law_536 (by decide) ?_
                    refine lv_iadd hx hb dL_law_537 ?_
                    obtain ⟨b104, hf⟩ := chk_ex hf
                    refine va_sld hx hb hX hbl hbA hW.2 b104 dL_law_538 ?_
                    refine lv_aload_n hx hb dL_law_539 rfl (lv_at hl 0 rfl) ?_
                    refine lv_iload hx hb dL_law_540 (lv_at hl 4 rfl) ?_
                    refine lv_iconst (v := 2) hx hb dL_law_542 (by decide) ?_
                    refine lv_iadd hx hb dL_law_543 ?_
                    obtain ⟨b105, hf⟩ := chk_ex hf
                    refine va_sld hx hb hX hbl hbA hW.2 b105 dL_law_544 ?_
                    refine lv_aload_n hx hb dL_law_545 rfl (lv_at hl 3 rfl) ?_
                    obtain ⟨r107, m108, e106, hf⟩ := bn2_ex hf
                    refine k_i X hW (k_SW (As := [.ref (ad g 12 0), .int (xs (x4 + 1).toNatClampNeg), .int (xs (x4 + 2).toNatClampNeg), .ref (ad g 34 0)]) (rest := []) X hW hml hl.1 (c_L_set l g hDW hst  _ _ mm _ _ e106) ⟨mw_792, kw_L_set⟩ ⟨⟨rfl, rfl⟩, ko_L_set, ⟨Nat.le_of_ble_eq_true rfl, Nat.le_of_ble_eq_true rfl⟩⟩ rfl rfl (Nat.le_of_ble_eq_true rfl) dL_law_546 ⟨by show _ ≤ 601024; omega, by show _ ≤ 7293034; omega⟩) (fun H locs hW => ?_)
                    refine lv_istore (lv' := [(5, .int r107), (0, .ref b), (1, .ref (ad g 12 0)), (2, .ref (ad g 21 0)), (3, .ref (ad g 34 0)), (4, .int x4)]) hx hb dL_law_549 hl (by decide) rfl (fun ls hl => ?_)
                    refine lv_aload_n hx hb dL_law_551 rfl (lv_at hl 3 rfl) ?_
                    refine lv_aload_n hx hb dL_law_552 rfl (lv_at hl 1 rfl) ?_
                    refine lv_iload hx hb dL_law_553 (lv_at hl 5 rfl) ?_
                    refine lv_iconst (v := 1) hx hb dL_law_555 (by decide) ?_
                    refine lv_iadd hx hb dL_law_556 ?_
                    obtain ⟨b109, hf⟩ := chk_ex hf
                    refine va_sld hx hb hX hbl hbA hW.2 b109 dL_law_557 ?_
                    refine lv_aload_n hx hb dL_law_558 rfl (lv_at hl 1 rfl) ?_
                    refine lv_iload hx hb dL_law_559 (lv_at hl 5 rfl) ?_
                    refine lv_iconst (v := 2) hx hb dL_law_561 (by decide) ?_
                    refine lv_iadd hx hb dL_law_562 ?_
                    obtain ⟨b110, hf⟩ := chk_ex hf
                    refine va_sld hx hb hX hbl hbA hW.2 b110 dL_law_563 ?_
                    obtain ⟨r112, m113, e111, hf⟩ := bn2_ex hf
                    refine k_i X hW (k_V (As := [.int (xs (x4 + 1).toNatClampNeg), .int (xs (x4 + 2).toNatClampNeg)]) (rest := []) X hW hml hl.1 (c_X6_set l g hDW  _ _ m108 _ _ e111) (r_recv X hW 21 0 (by decide) (by decide) rfl rfl) ⟨mw_1080, kw_X6_set⟩ ⟨⟨rfl, rfl⟩, ko_X6_set, ⟨Nat.le_of_ble_eq_true rfl, Nat.le_of_ble_eq_true rfl⟩⟩ rfl rfl (Nat.le_of_ble_eq_true rfl) dL_law_564 ⟨by show _ ≤ 601024; omega, by show _ ≤ 7293034; omega⟩) (fun H locs hW => ?_)
                    refine lv_istore (lv' := [(6, .int r112), (5, .int r107), (0, .ref b), (1, .ref (ad g 12 0)), (2, .ref (ad g 21 0)), (3, .ref (ad g 34 0)), (4, .int x4)]) hx hb dL_law_567 hl (by decide) rfl (fun ls hl => ?_)
                    refine lv_aload_n hx hb dL_law_569 rfl (lv_at hl 4 rfl) ?_
                    obtain ⟨r115, e114, hf⟩ := bnd_ex hf
                    refine k_i X hW (k_V (As := []) (rest := []) X hW hml hl.1 (c_X6_thrown l g hDW   m113 _ e114) (r_recv X hW 21 0 (by decide) (by decide) rfl rfl) ⟨mw_1005, kw_X6_thrown⟩ ⟨⟨rfl, rfl⟩, ko_X6_thrown, ⟨Nat.le_of_ble_eq_true rfl, Nat.le_of_ble_eq_true rfl⟩⟩ rfl rfl (Nat.le_of_ble_eq_true rfl) dL_law_570 ⟨by show _ ≤ 601024; omega, by show _ ≤ 7293034; omega⟩) (fun H locs hW => ?_)
                    refine lv_iload hx hb dL_law_573 (lv_at hl 1 rfl) ?_
                    refine lv_icmp_eq (tgt := 580) hx hb dL_law_575 (by decide) (fun c120 => ?_) (fun c120 => ?_)
                    · replace hf := ite_t hf c120
                      refine lv_iload hx hb dL_law_580 (lv_at hl 1 rfl) ?_
                      refine lv_if_ne (tgt := 597) hx hb dL_law_582 (by decide) (fun c119 => ?_) (fun c119 => ?_)
                      · replace hf := ite_f hf c119
                        exact P_597 _ _ _ _ _ _ _ (by omega) (by omega) hW (lv_sub hl [2, 3, 4, 5, 6] rfl) hf
                      · replace hf := ite_t hf c119
                        refine lv_aload_n hx hb dL_law_585 rfl (lv_at hl 5 rfl) ?_
                        refine lv_iconst (v := 0) hx hb dL_law_586 (by decide) ?_
                        refine r_lald X hW vp01 dL_law_587 ?_
                        refine lv_iload hx hb dL_law_588 (lv_at hl 0 rfl) ?_
                        refine lv_i2l hx hb dL_law_590 (v := r112.toInt64) rfl ?_
                        refine W.lcmp hx hb dL_law_591 ?_
                        refine lv_if_eq (tgt := 597) hx hb dL_law_592 (by decide) (fun c118 => ?_) (fun c118 => ?_)
                        · replace hf := ite_t hf c118
                          exact P_597 _ _ _ _ _ _ _ (by omega) (by omega) hW (lv_sub hl [2, 3, 4, 5, 6] rfl) hf
                        · replace hf := ite_f hf c118
                          refine lv_iconst (v := 0) hx hb dL_law_595 (by decide) ?_
                          exact absurd (someinj hf) (by decide)
                    · replace hf := ite_f hf c120
                      refine lv_iconst (v := 0) hx hb dL_law_578 (by decide) ?_
                      exact absurd (someinj hf) (by decide)
                  · replace hf := ite_f hf c121
                    by_cases c137 : ((xs x4.toNatClampNeg) &&& 31) = 7
                    · replace hf := ite_t hf c137
                      refine lv_tableIn (off := 561) (tgt := 600) hx hb dL_law_39 (by rw [c137]; decide) (by rw [c137]; decide) (by rw [c137]; rfl) (by decide) ?_
                      refine lv_aload_n hx hb dL_law_600 rfl (lv_at hl 1 rfl) ?_
                      refine lv_aload_n hx hb dL_law_601 rfl (lv_at hl 0 rfl) ?_
                      refine lv_iload hx hb dL_law_602 (lv_at hl 4 rfl) ?_
                      refine lv_iconst (v := 1) hx hb dL_law_604 (by decide) ?_
                      refine lv_iadd hx hb dL_law_605 ?_
                      obtain ⟨b122, hf⟩ := chk_ex hf
                      refine va_sld hx hb hX hbl hbA hW.2 b122 dL_law_606 ?_
                      refine lv_aload_n hx hb dL_law_607 rfl (lv_at hl 3 rfl) ?_
                      obtain ⟨r124, m125, e123, hf⟩ := bn2_ex hf
                      refine k_i X hW (k_SW (As := [.ref (ad g 12 0), .int (xs (x4 + 1).toNatClampNeg), .ref (ad g 34 0)]) (rest := []) X hW hml hl.1 (c_L_pass l g hDW hst  _ mm _ _ e123) ⟨mw_808, kw_L_pass⟩ ⟨⟨rfl, rfl⟩, ko_L_pass, ⟨Nat.le_of_ble_eq_true rfl, Nat.le_of_ble_eq_true rfl⟩⟩ rfl rfl (Nat.le_of_ble_eq_true rfl) dL_law_608 ⟨by show _ ≤ 601024; omega, by show _ ≤ 7293034; omega⟩) (fun H locs hW => ?_)
                      refine lv_istore (lv' := [(5, .int r124), (0, .ref b), (1, .ref (ad g 12 0)), (2, .ref (ad g 21 0)), (3, .ref (ad g 34 0)), (4, .int x4)]) hx hb dL_law_611 hl (by decide) rfl (fun ls hl => ?_)
                      refine lv_aload_n hx hb dL_law_613 rfl (lv_at hl 3 rfl) ?_
                      refine lv_aload_n hx hb dL_law_614 rfl (lv_at hl 1 rfl) ?_
                      refine lv_iload hx hb dL_law_615 (lv_at hl 5 rfl) ?_
                      refine lv_iconst (v := 1) hx hb dL_law_617 (by decide) ?_
                      refine lv_iadd hx hb dL_law_618 ?_
                      obtain ⟨b126, hf⟩ := chk_ex hf
                      refine va_sld hx hb hX hbl hbA hW.2 b126 dL_law_619 ?_
                      obtain ⟨r128, m129, e127, hf⟩ := bn2_ex hf
                      refine k_i X hW (k_V (As := [.int (xs (x4 + 1).toNatClampNeg)]) (rest := []) X hW hml hl.1 (c_X6_pass l g hDW  _ m125 _ _ e127) (r_recv X hW 21 0 (by decide) (by decide) rfl rfl) ⟨mw_1084, kw_X6_pass⟩ ⟨⟨rfl, rfl⟩, ko_X6_pass, ⟨Nat.le_of_ble_eq_true rfl, Nat.le_of_ble_eq_true rfl⟩⟩ rfl rfl (Nat.le_of_ble_eq_true rfl) dL_law_620 ⟨by show _ ≤ 601024; omega, by show _ ≤ 7293034; omega⟩) (fun H locs hW => ?_)
                      refine lv_istore (lv' := [(6, .int r128), (5, .int r124), (0, .ref b), (1, .ref (ad g 12 0)), (2, .ref (ad g 21 0)), (3, .ref (ad g 34 0)), (4, .int x4)]) hx hb dL_law_623 hl (by decide) rfl (fun ls hl => ?_)
                      refine lv_aload_n hx hb dL_law_625 rfl (lv_at hl 4 rfl) ?_
                      obtain ⟨r131, e130, hf⟩ := bnd_ex hf
                      refine k_i X hW (k_V (As := []) (rest := []) X hW hml hl.1 (c_X6_thrown l g hDW   m129 _ e130) (r_recv X hW 21 0 (by decide) (by decide) rfl rfl) ⟨mw_1005, kw_X6_thrown⟩ ⟨⟨rfl, rfl⟩, ko_X6_thrown, ⟨Nat.le_of_ble_eq_true rfl, Nat.le_of_ble_eq_true rfl⟩⟩ rfl rfl (Nat.le_of_ble_eq_true rfl) dL_law_626 ⟨by show _ ≤ 601024; omega, by show _ ≤ 7293034; omega⟩) (fun H locs hW => ?_)
                      refine lv_iload hx hb dL_law_629 (lv_at hl 1 rfl) ?_
                      refine lv_icmp_eq (tgt := 636) hx hb dL_law_631 (by decide) (fun c136 => ?_) (fun c136 => ?_)
                      · replace hf := ite_t hf c136
                        refine lv_iload hx hb dL_law_636 (lv_at hl 1 rfl) ?_
                        refine lv_if_ne (tgt := 653) hx hb dL_law_638 (by decide) (fun c135 => ?_) (fun c135 => ?_)
                        · replace hf := ite_f hf c135
                          exact P_653 _ _ _ _ _ _ _ (by omega) (by omega) hW (lv_sub hl [2, 3, 4, 5, 6] rfl) hf
                        · replace hf := ite_t hf c135
                          refine lv_aload_n hx hb dL_law_641 rfl (lv_at hl 5 rfl) ?_
                          refine lv_iconst (v := 0) hx hb dL_law_642 (by decide) ?_
                          refine r_lald X hW vp01 dL_law_643 ?_
                          refine lv_iload hx hb dL_law_644 (lv_at hl 0 rfl) ?_
                          refine lv_i2l hx hb dL_law_646 (v := r128.toInt64) rfl ?_
                          refine W.lcmp hx hb dL_law_647 ?_
                          refine lv_if_eq (tgt := 653) hx hb dL_law_648 (by decide) (fun c134 => ?_) (fun c134 => ?_)
                          · replace hf := ite_t hf c134
                            exact P_653 _ _ _ _ _ _ _ (by omega) (by omega) hW (lv_sub hl [2, 3, 4, 5, 6] rfl) hf
                          · replace hf := ite_f hf c134
                            refine lv_iconst (v := 0) hx hb dL_law_651 (by decide) ?_
                            exact absurd (someinj hf) (by decide)
                      · replace hf := ite_f hf c136
                        refine lv_iconst (v := 0) hx hb dL_law_634 (by decide) ?_
                        exact absurd (someinj hf) (by decide)
                    · replace hf := ite_f hf c137
                      by_cases c153 : ((xs x4.toNatClampNeg) &&& 31) = 8
                      · replace hf := ite_t hf c153
                        refine lv_tableIn (off := 617) (tgt := 656) hx hb dL_law_39 (by rw [c153]; decide) (by rw [c153]; decide) (by rw [c153]; rfl) (by decide) ?_
                        refine lv_aload_n hx hb dL_law_656 rfl (lv_at hl 1 rfl) ?_
                        refine lv_aload_n hx hb dL_law_657 rfl (lv_at hl 0 rfl) ?_
                        refine lv_iload hx hb dL_law_658 (lv_at hl 4 rfl) ?_
                        refine lv_iconst (v := 1) hx hb dL_law_660 (by decide) ?_
                        refine lv_iadd hx hb dL_law_661 ?_
                        obtain ⟨b138, hf⟩ := chk_ex hf
                        refine va_sld hx hb hX hbl hbA hW.2 b138 dL_law_662 ?_
                        refine lv_aload_n hx hb dL_law_663 rfl (lv_at hl 3 rfl) ?_
                        obtain ⟨r140, m141, e139, hf⟩ := bn2_ex hf
                        refine k_i X hW (k_SW (As := [.ref (ad g 12 0), .int (xs (x4 + 1).toNatClampNeg), .ref (ad g 34 0)]) (rest := []) X hW hml hl.1 (c_L_append l g hDW hst  _ mm _ _ e139) ⟨mw_829, kw_L_append⟩ ⟨⟨rfl, rfl⟩, ko_L_append, ⟨Nat.le_of_ble_eq_true rfl, Nat.le_of_ble_eq_true rfl⟩⟩ rfl rfl (Nat.le_of_ble_eq_true rfl) dL_law_664 ⟨by show _ ≤ 601024; omega, by show _ ≤ 7293034; omega⟩) (fun H locs hW => ?_)
                        refine lv_istore (lv' := [(5, .int r140), (0, .ref b), (1, .ref (ad g 12 0)), (2, .ref (ad g 21 0)), (3, .ref (ad g 34 0)), (4, .int x4)]) hx hb dL_law_667 hl (by decide) rfl (fun ls hl => ?_)
                        refine lv_aload_n hx hb dL_law_669 rfl (lv_at hl 3 rfl) ?_
                        refine lv_aload_n hx hb dL_law_670 rfl (lv_at hl 1 rfl) ?_
                        refine lv_iload hx hb dL_law_671 (lv_at hl 5 rfl) ?_
                        refine lv_iconst (v := 1) hx hb dL_law_673 (by decide) ?_
                        refine lv_iadd hx hb dL_law_674 ?_
                        obtain ⟨b142, hf⟩ := chk_ex hf
                        refine va_sld hx hb hX hbl hbA hW.2 b142 dL_law_675 ?_
                        obtain ⟨r144, m145, e143, hf⟩ := bn2_ex hf
                        refine k_i X hW (k_V (As := [.int (xs (x4 + 1).toNatClampNeg)]) (rest := []) X hW hml hl.1 (c_X6_append l g hDW  _ m141 _ _ e143) (r_recv X hW 21 0 (by decide) (by decide) rfl rfl) ⟨mw_1125, kw_X6_append⟩ ⟨⟨rfl, rfl⟩, ko_X6_append, ⟨Nat.le_of_ble_eq_true rfl, Nat.le_of_ble_eq_true rfl⟩⟩ rfl rfl (Nat.le_of_ble_eq_true rfl) dL_law_676 ⟨by show _ ≤ 601024; omega, by show _ ≤ 7293034; omega⟩) (fun H locs hW => ?_)
                        refine lv_istore (lv' := [(6, .int r144), (5, .int r140), (0, .ref b), (1, .ref (ad g 12 0)), (2, .ref (ad g 21 0)), (3, .ref (ad g 34 0)), (4, .int x4)]) hx hb dL_law_679 hl (by decide) rfl (fun ls hl => ?_)
                        refine lv_aload_n hx hb dL_law_681 rfl (lv_at hl 4 rfl) ?_
                        obtain ⟨r147, e146, hf⟩ := bnd_ex hf
                        refine k_i X hW (k_V (As := []) (rest := []) X hW hml hl.1 (c_X6_thrown l g hDW   m145 _ e146) (r_recv X hW 21 0 (by decide) (by decide) rfl rfl) ⟨mw_1005, kw_X6_thrown⟩ ⟨⟨rfl, rfl⟩, ko_X6_thrown, ⟨Nat.le_of_ble_eq_true rfl, Nat.le_of_ble_eq_true rfl⟩⟩ rfl rfl (Nat.le_of_ble_eq_true rfl) dL_law_682 ⟨by show _ ≤ 601024; omega, by show _ ≤ 7293034; omega⟩) (fun H locs hW => ?_)
                        refine lv_iload hx hb dL_law_685 (lv_at hl 1 rfl) ?_
                        refine lv_icmp_eq (tgt := 692) hx hb dL_law_687 (by decide) (fun c152 => ?_) (fun c152 => ?_)
                        · replace hf := ite_t hf c152
                          refine lv_iload hx hb dL_law_692 (lv_at hl 1 rfl) ?_
                          refine lv_if_ne (tgt := 709) hx hb dL_law_694 (by decide) (fun c151 => ?_) (fun c151 => ?_)
                          · replace hf := ite_f hf c151
                            exact P_709 _ _ _ _ _ _ _ (by omega) (by omega) hW (lv_sub hl [2, 3, 4, 5, 6] rfl) hf
                          · replace hf := ite_t hf c151
                            refine lv_aload_n hx hb dL_law_697 rfl (lv_at hl 5 rfl) ?_
                            refine lv_iconst (v := 0) hx hb dL_law_698 (by decide) ?_
                            refine r_lald X hW vp01 dL_law_699 ?_
                            refine lv_iload hx hb dL_law_700 (lv_at hl 0 rfl) ?_
                            refine lv_i2l hx hb dL_law_702 (v := r144.toInt64) rfl ?_
                            refine W.lcmp hx hb dL_law_703 ?_
                            refine lv_if_eq (tgt := 709) hx hb dL_law_704 (by decide) (fun c150 => ?_) (fun c150 => ?_)
                            · replace hf := ite_t hf c150
                              exact P_709 _ _ _ _ _ _ _ (by omega) (by omega) hW (lv_sub hl [2, 3, 4, 5, 6] rfl) hf
                            · replace hf := ite_f hf c150
                              refine lv_iconst (v := 0) hx hb dL_law_707 (by decide) ?_
                              exact absurd (someinj hf) (by decide)
                        · replace hf := ite_f hf c152
                          refine lv_iconst (v := 0) hx hb dL_law_690 (by decide) ?_
                          exact absurd (someinj hf) (by decide)
                      · replace hf := ite_f hf c153
                        by_cases c161 : ((xs x4.toNatClampNeg) &&& 31) = 9
                        · replace hf := ite_t hf c161
                          refine lv_tableIn (off := 673) (tgt := 712) hx hb dL_law_39 (by rw [c161]; decide) (by rw [c161]; decide) (by rw [c161]; rfl) (by decide) ?_
                          refine lv_aload_n hx hb dL_law_712 rfl (lv_at hl 1 rfl) ?_
                          obtain ⟨r155, m156, e154, hf⟩ := bn2_ex hf
                          refine k_i X hW (k_V (As := []) (rest := []) X hW hml hl.1 (c_X5_clearBuffer l g hDW   mm _ _ e154) (r_recv X hW 12 0 (by decide) (by decide) rfl rfl) ⟨mw_285, kw_X5_clearBuffer⟩ ⟨⟨rfl, rfl⟩, ko_X5_clearBuffer, ⟨Nat.le_of_ble_eq_true rfl, Nat.le_of_ble_eq_true rfl⟩⟩ rfl rfl (Nat.le_of_ble_eq_true rfl) dL_law_713 ⟨by show _ ≤ 601024; omega, by show _ ≤ 7293034; omega⟩) (fun H locs hW => ?_)
                          refine lv_aload_n hx hb dL_law_716 rfl (lv_at hl 2 rfl) ?_
                          obtain ⟨r158, m159, e157, hf⟩ := bn2_ex hf
                          refine k_i X hW (k_V (As := []) (rest := [.int r155]) X hW hml hl.1 (c_X6_clearBuffer l g hDW   m156 _ _ e157) (r_recv X hW 21 0 (by decide) (by decide) rfl rfl) ⟨mw_1129, kw_X6_clearBuffer⟩ ⟨⟨rfl, rfl⟩, ko_X6_clearBuffer, ⟨Nat.le_of_ble_eq_true rfl, Nat.le_of_ble_eq_true rfl⟩⟩ rfl rfl (Nat.le_of_ble_eq_true rfl) dL_law_717 ⟨by show _ ≤ 601024; omega, by show _ ≤ 7293034; omega⟩) (fun H locs hW => ?_)
                          refine lv_icmp_eq (tgt := 1569) hx hb dL_law_720 (by decide) (fun c160 => ?_) (fun c160 => ?_)
                          · replace hf := ite_t hf c160
                            exact P_1569 _ _ _ _ _ _ _ (by omega) (by omega) hW (lv_sub hl [0, 1, 2, 3, 4] rfl) hf
                          · replace hf := ite_f hf c160
                            refine lv_iconst (v := 0) hx hb dL_law_723 (by decide) ?_
                            exact absurd (someinj hf) (by decide)
                        · replace hf := ite_f hf c161
                          by_cases c169 : ((xs x4.toNatClampNeg) &&& 31) = 10
                          · replace hf := ite_t hf c169
                            refine lv_tableIn (off := 686) (tgt := 725) hx hb dL_law_39 (by rw [c169]; decide) (by rw [c169]; decide) (by rw [c169]; rfl) (by decide) ?_
                            refine lv_aload_n hx hb dL_law_725 rfl (lv_at hl 1 rfl) ?_
                            obtain ⟨r163, e162, hf⟩ := bnd_ex hf
                            refine k_i X hW (k_V (As := []) (rest := []) X hW hml hl.1 (c_X5_firstError l g hDW   mm _ e162) (r_recv X hW 12 0 (by decide) (by decide) rfl rfl) ⟨mw_289, kw_X5_firstError⟩ ⟨⟨rfl, rfl⟩, ko_X5_firstError, ⟨Nat.le_of_ble_eq_true rfl, Nat.le_of_ble_eq_true rfl⟩⟩ rfl rfl (Nat.le_of_ble_eq_true rfl) dL_law_726 ⟨by show _ ≤ 601024; omega, by show _ ≤ 7293034; omega⟩) (fun H locs hW => ?_)
                            refine lv_aload_n hx hb dL_law_729 rfl (lv_at hl 2 rfl) ?_
                            obtain ⟨r166, m167, e165, hf⟩ := bn2_ex hf
                            refine k_i X hW (k_V (As := []) (rest := [.int r163]) X hW hml hl.1 (c_X6_firstError l g hDW   mm _ _ e165) (r_recv X hW 21 0 (by decide) (by decide) rfl rfl) ⟨mw_1133, kw_X6_firstError⟩ ⟨⟨rfl, rfl⟩, ko_X6_firstError, ⟨Nat.le_of_ble_eq_true rfl, Nat.le_of_ble_eq_true rfl⟩⟩ rfl rfl (Nat.le_of_ble_eq_true rfl) dL_law_730 ⟨by show _ ≤ 601024; omega, by show _ ≤ 7293034; omega⟩) (fun H locs hW => ?_)
                            refine lv_icmp_eq (tgt := 1569) hx hb dL_law_733 (by decide) (fun c168 => ?_) (fun c168 => ?_)
                            · replace hf := ite_t hf c168
                              exact P_1569 _ _ _ _ _ _ _ (by omega) (by omega) hW (lv_sub hl [0, 1, 2, 3, 4] rfl) hf
                            · replace hf := ite_f hf c168
                              refine lv_iconst (v := 0) hx hb dL_law_736 (by decide) ?_
                              exact absurd (someinj hf) (by decide)
                          · replace hf := ite_f hf c169
                            by_cases c183 : ((xs x4.toNatClampNeg) &&& 31) = 11
                            · replace hf := ite_t hf c183
                              refine lv_tableIn (off := 699) (tgt := 738) hx hb dL_law_39 (by rw [c183]; decide) (by rw [c183]; decide) (by rw [c183]; rfl) (by decide) ?_
                              refine lv_aload_n hx hb dL_law_738 rfl (lv_at hl 1 rfl) ?_
                              refine lv_aload_n hx hb dL_law_739 rfl (lv_at hl 3 rfl) ?_
                              obtain ⟨r171, m172, e170, hf⟩ := bn2_ex hf
                              refine k_i X hW (k_SW (As := [.ref (ad g 12 0), .ref (ad g 34 0)]) (rest := []) X hW hml hl.1 (c_L_load l g hDW hst   mm _ _ e170) ⟨mw_838, kw_L_load⟩ ⟨⟨rfl, rfl⟩, ko_L_load, ⟨Nat.le_of_ble_eq_true rfl, Nat.le_of_ble_eq_true rfl⟩⟩ rfl rfl (Nat.le_of_ble_eq_true rfl) dL_law_740 ⟨by show _ ≤ 601024; omega, by show _ ≤ 7293034; omega⟩) (fun H locs hW => ?_)
                              refine lv_istore (lv' := [(5, .int r171), (0, .ref b), (1, .ref (ad g 12 0)), (2, .ref (ad g 21 0)), (3, .ref (ad g 34 0)), (4, .int x4)]) hx hb dL_law_743 hl (by decide) rfl (fun ls hl => ?_)
                              refine lv_aload_n hx hb dL_law_745 rfl (lv_at hl 3 rfl) ?_
                              obtain ⟨r174, m175, e173, hf⟩ := bn2_ex hf
                              refine k_i X hW (k_V (As := []) (rest := []) X hW hml hl.1 (c_X6_load l g hDW   m172 _ _ e173) (r_recv X hW 21 0 (by decide) (by decide) rfl rfl) ⟨mw_1152, kw_X6_load⟩ ⟨⟨rfl, rfl⟩, ko_X6_load, ⟨Nat.le_of_ble_eq_true rfl, Nat.le_of_ble_eq_true rfl⟩⟩ rfl rfl (Nat.le_of_ble_eq_true rfl) dL_law_746 ⟨by show _ ≤ 601024; omega, by show _ ≤ 7293034; omega⟩) (fun H locs hW => ?_)
                              refine lv_istore (lv' := [(6, .int r174), (5, .int r171), (0, .ref b), (1, .ref (ad g 12 0)), (2, .ref (ad g 21 0)), (3, .ref (ad g 34 0)), (4, .int x4)]) hx hb dL_law_749 hl (by decide) rfl (fun ls hl => ?_)
                              refine lv_aload_n hx hb dL_law_751 rfl (lv_at hl 4 rfl) ?_
                              obtain ⟨r177, e176, hf⟩ := bnd_ex hf
                              refine k_i X hW (k_V (As := []) (rest := []) X hW hml hl.1 (c_X6_thrown l g hDW   m175 _ e176) (r_recv X hW 21 0 (by decide) (by decide) rfl rfl) ⟨mw_1005, kw_X6_thrown⟩ ⟨⟨rfl, rfl⟩, ko_X6_thrown, ⟨Nat.le_of_ble_eq_true rfl, Nat.le_of_ble_eq_true rfl⟩⟩ rfl rfl (Nat.le_of_ble_eq_true rfl) dL_law_752 ⟨by show _ ≤ 601024; omega, by show _ ≤ 7293034; omega⟩) (fun H locs hW => ?_)
                              refine lv_iload hx hb dL_law_755 (lv_at hl 1 rfl) ?_
                              refine lv_icmp_eq (tgt := 762) hx hb dL_law_757 (by decide) (fun c182 => ?_) (fun c182 => ?_)
                              · replace hf := ite_t hf c182
                                refine lv_iload hx hb dL_law_762 (lv_at hl 1 rfl) ?_
                                refine lv_if_ne (tgt := 779) hx hb dL_law_764 (by decide) (fun c181 => ?_) (fun c181 => ?_)
                                · replace hf := ite_f hf c181
                                  exact P_779 _ _ _ _ _ _ _ (by omega) (by omega) hW (lv_sub hl [2, 3, 4, 5, 6] rfl) hf
                                · replace hf := ite_t hf c181
                                  refine lv_aload_n hx hb dL_law_767 rfl (lv_at hl 5 rfl) ?_
                                  refine lv_iconst (v := 0) hx hb dL_law_768 (by decide) ?_
                                  refine r_lald X hW vp01 dL_law_769 ?_
                                  refine lv_iload hx hb dL_law_770 (lv_at hl 0 rfl) ?_
                                  refine lv_i2l hx hb dL_law_772 (v := r174.toInt64) rfl ?_
                                  refine W.lcmp hx hb dL_law_773 ?_
                                  refine lv_if_eq (tgt := 779) hx hb dL_law_774 (by decide) (fun c180 => ?_) (fun c180 => ?_)
                                  · replace hf := ite_t hf c180
                                    exact P_779 _ _ _ _ _ _ _ (by omega) (by omega) hW (lv_sub hl [2, 3, 4, 5, 6] rfl) hf
                                  · replace hf := ite_f hf c180
                                    refine lv_iconst (v := 0) hx hb dL_law_777 (by decide) ?_
                                    exact absurd (someinj hf) (by decide)
                              · replace hf := ite_f hf c182
                                refine lv_iconst (v := 0) hx hb dL_law_760 (by decide) ?_
                                exact absurd (someinj hf) (by decide)
                            · replace hf := ite_f hf c183
                              by_cases c191 : ((xs x4.toNatClampNeg) &&& 31) = 12
                              · replace hf := ite_t hf c191
                                refine lv_tableIn (off := 743) (tgt := 782) hx hb dL_law_39 (by rw [c191]; decide) (by rw [c191]; decide) (by rw [c191]; rfl) (by decide) ?_
                                refine lv_aload_n hx hb dL_law_782 rfl (lv_at hl 1 rfl) ?_
                                obtain ⟨r185, m186, e184, hf⟩ := bn2_ex hf
                                refine k_i X hW (k_V (As := []) (rest := []) X hW hml hl.1 (c_X5_write l g hDW   mm _ _ e184) (r_recv X hW 12 0 (by decide) (by decide) rfl rfl) ⟨mw_385, kw_X5_write⟩ ⟨⟨rfl, rfl⟩, ko_X5_write, ⟨Nat.le_of_ble_eq_true rfl, Nat.le_of_ble_eq_true rfl⟩⟩ rfl rfl (Nat.le_of_ble_eq_true rfl) dL_law_783 ⟨by show _ ≤ 601024; omega, by show _ ≤ 7293034; omega⟩) (fun H locs hW => ?_)
                                refine lv_aload_n hx hb dL_law_786 rfl (lv_at hl 2 rfl) ?_
                                obtain ⟨r188, m189, e187, hf⟩ := bn2_ex hf
                                refine k_i X hW (k_V (As := []) (rest := [.int r185]) X hW hml hl.1 (c_X6_write l g hDW   m186 _ _ e187) (r_recv X hW 21 0 (by decide) (by decide) rfl rfl) ⟨mw_1156, kw_X6_write⟩ ⟨⟨rfl, rfl⟩, ko_X6_write, ⟨Nat.le_of_ble_eq_true rfl, Nat.le_of_ble_eq_true rfl⟩⟩ rfl rfl (Nat.le_of_ble_eq_true rfl) dL_law_787 ⟨by show _ ≤ 601024; omega, by show _ ≤ 7293034; omega⟩) (fun H locs hW => ?_)
                                refine lv_icmp_eq (tgt := 1569) hx hb dL_law_790 (by decide) (fun c190 => ?_) (fun c190 => ?_)
                                · replace hf := ite_t hf c190
                                  exact P_1569 _ _ _ _ _ _ _ (by omega) (by omega) hW (lv_sub hl [0, 1, 2, 3, 4] rfl) hf
                                · replace hf := ite_f hf c190
                                  refine lv_iconst (v := 0) hx hb dL_law_793 (by decide) ?_
                                  exact absurd (someinj hf) (by decide)
                              · replace hf := ite_f hf c191
                                by_cases c207 : ((xs x4.toNatClampNeg) &&& 31) = 13
                                · replace hf := ite_t hf c207
                                  refine lv_tableIn (off := 756) (tgt := 795) hx hb dL_law_39 (by rw [c207]; decide) (by rw [c207]; decide) (by rw [c207]; rfl) (by decide) ?_
                                  refine lv_aload_n hx hb dL_law_795 rfl (lv_at hl 1 rfl) ?_
                                  refine lv_aload_n hx hb dL_law_796 rfl (lv_at hl 0 rfl) ?_
                                  refine lv_iload hx hb dL_law_797 (lv_at hl 4 rfl) ?_
                                  refine lv_iconst (v := 1) hx hb dL_law_799 (by decide) ?_
                                  refine lv_iadd hx hb dL_law_800 ?_
                                  obtain ⟨b192, hf⟩ := chk_ex hf
                                  refine va_sld hx hb hX hbl hbA hW.2 b192 dL_law_801 ?_
                                  refine lv_aload_n hx hb dL_law_802 rfl (lv_at hl 3 rfl) ?_
                                  obtain ⟨r194, m195, e193, hf⟩ := bn2_ex hf
                                  refine k_i X hW (k_SW (As := [.ref (ad g 12 0), .int (xs (x4 + 1).toNatClampNeg), .ref (ad g 34 0)]) (rest := []) X hW hml hl.1 (c_L_keep l g hDW hst  _ mm _ _ e193) ⟨mw_850, kw_L_keep⟩ ⟨⟨rfl, rfl⟩, ko_L_keep, ⟨Nat.le_of_ble_eq_true rfl, Nat.le_of_ble_eq_true rfl⟩⟩ rfl rfl (Nat.le_of_ble_eq_true rfl) dL_law_803 ⟨by show _ ≤ 601024; omega, by show _ ≤ 7293034; omega⟩) (fun H locs hW => ?_)
                                  refine lv_istore (lv' := [(5, .int r194), (0, .ref b), (1, .ref (ad g 12 0)), (2, .ref (ad g 21 0)), (3, .ref (ad g 34 0)), (4, .int x4)]) hx hb dL_law_806 hl (by decide) rfl (fun ls hl => ?_)
                                  refine lv_aload_n hx hb dL_law_808 rfl (lv_at hl 3 rfl) ?_
                                  refine lv_aload_n hx hb dL_law_809 rfl (lv_at hl 1 rfl) ?_
                                  refine lv_iload hx hb dL_law_810 (lv_at hl 5 rfl) ?_
                                  refine lv_iconst (v := 1) hx hb dL_law_812 (by decide) ?_
                                  refine lv_iadd hx hb dL_law_813 ?_
                                  obtain ⟨b196, hf⟩ := chk_ex hf
                                  refine va_sld hx hb hX hbl hbA hW.2 b196 dL_law_814 ?_
                                  obtain ⟨r198, m199, e197, hf⟩ := bn2_ex hf
                                  refine k_i X hW (k_V (As := [.int (xs (x4 + 1).toNatClampNeg)]) (rest := []) X hW hml hl.1 (c_X6_keep l g hDW  _ m195 _ _ e197) (r_recv X hW 21 0 (by decide) (by decide) rfl rfl) ⟨mw_1179, kw_X6_keep⟩ ⟨⟨rfl, rfl⟩, ko_X6_keep, ⟨Nat.le_of_ble_eq_true rfl, Nat.le_of_ble_eq_true rfl⟩⟩ rfl rfl (Nat.le_of_ble_eq_true rfl) dL_law_815 ⟨by show _ ≤ 601024; omega, by show _ ≤ 7293034; omega⟩) (fun H locs hW => ?_)
                                  refine lv_istore (lv' := [(6, .int r198), (5, .int r194), (0, .ref b), (1, .ref (ad g 12 0)), (2, .ref (ad g 21 0)), (3, .ref (ad g 34 0)), (4, .int x4)]) hx hb dL_law_818 hl (by decide) rfl (fun ls hl => ?_)
                                  refine lv_aload_n hx hb dL_law_820 rfl (lv_at hl 4 rfl) ?_
                                  obtain ⟨r201, e200, hf⟩ := bnd_ex hf
                                  refine k_i X hW (k_V (As := []) (rest := []) X hW hml hl.1 (c_X6_thrown l g hDW   m199 _ e200) (r_recv X hW 21 0 (by decide) (by decide) rfl rfl) ⟨mw_1005, kw_X6_thrown⟩ ⟨⟨rfl, rfl⟩, ko_X6_thrown, ⟨Nat.le_of_ble_eq_true rfl, Nat.le_of_ble_eq_true rfl⟩⟩ rfl rfl (Nat.le_of_ble_eq_true rfl) dL_law_821 ⟨by show _ ≤ 601024; omega, by show _ ≤ 7293034; omega⟩) (fun H locs hW => ?_)
                                  refine lv_iload hx hb dL_law_824 (lv_at hl 1 rfl) ?_
                                  refine lv_icmp_eq (tgt := 831) hx hb dL_law_826 (by decide) (fun c206 => ?_) (fun c206 => ?_)
                                  · replace hf := ite_t hf c206
                                    refine lv_iload hx hb dL_law_831 (lv_at hl 1 rfl) ?_
                                    refine lv_if_ne (tgt := 848) hx hb dL_law_833 (by decide) (fun c205 => ?_) (fun c205 => ?_)
                                    · replace hf := ite_f hf c205
                                      exact P_848 _ _ _ _ _ _ _ (by omega) (by omega) hW (lv_sub hl [2, 3, 4, 5, 6] rfl) hf
                                    · replace hf := ite_t hf c205
                                      refine lv_aload_n hx hb dL_law_836 rfl (lv_at hl 5 rfl) ?_
                                      refine lv_iconst (v := 0) hx hb dL_law_837 (by decide) ?_
                                      refine r_lald X hW vp01 dL_law_838 ?_
                                      refine lv_iload hx hb dL_law_839 (lv_at hl 0 rfl) ?_
                                      refine lv_i2l hx hb dL_law_841 (v := r198.toInt64) rfl ?_
                                      refine W.lcmp hx hb dL_law_842 ?_
                                      refine lv_if_eq (tgt := 848) hx hb dL_law_843 (by decide) (fun c204 => ?_) (fun c204 => ?_)
                                      · replace hf := ite_t hf c204
                                        exact P_848 _ _ _ _ _ _ _ (by omega) (by omega) hW (lv_sub hl [2, 3, 4, 5, 6] rfl) hf
                                      · replace hf := ite_f hf c204
                                        refine lv_iconst (v := 0) hx hb dL_law_846 (by decide) ?_
                                        exact absurd (someinj hf) (by decide)
                                  · replace hf := ite_f hf c206
                                    refine lv_iconst (v := 0) hx hb dL_law_829 (by decide) ?_
                                    exact absurd (someinj hf) (by decide)
                                · replace hf := ite_f hf c207
                                  by_cases c223 : ((xs x4.toNatClampNeg) &&& 31) = 14
                                  · replace hf := ite_t hf c223
                                    refine lv_tableIn (off := 812) (tgt := 851) hx hb dL_law_39 (by rw [c223]; decide) (by rw [c223]; decide) (by rw [c223]; rfl) (by decide) ?_
                                    refine lv_aload_n hx hb dL_law_851 rfl (lv_at hl 1 rfl) ?_
                                    refine lv_aload_n hx hb dL_law_852 rfl (lv_at hl 0 rfl) ?_
                                    refine lv_iload hx hb dL_law_853 (lv_at hl 4 rfl) ?_
                                    refine lv_iconst (v := 1) hx hb dL_law_855 (by decide) ?_
                                    refine lv_iadd hx hb dL_law_856 ?_
                                    obtain ⟨b208, hf⟩ := chk_ex hf
                                    refine va_sld hx hb hX hbl hbA hW.2 b208 dL_law_857 ?_
                                    refine lv_aload_n hx hb dL_law_858 rfl (lv_at hl 3 rfl) ?_
                                    obtain ⟨r210, m211, e209, hf⟩ := bn2_ex hf
                                    refine k_i X hW (k_SW (As := [.ref (ad g 12 0), .int (xs (x4 + 1).toNatClampNeg), .ref (ad g 34 0)]) (rest := []) X hW hml hl.1 (c_L_goBack l g hDW hst  _ mm _ _ e209) ⟨mw_861, kw_L_goBack⟩ ⟨⟨rfl, rfl⟩, ko_L_goBack, ⟨Nat.le_of_ble_eq_true rfl, Nat.le_of_ble_eq_true rfl⟩⟩ rfl rfl (Nat.le_of_ble_eq_true rfl) dL_law_859 ⟨by show _ ≤ 601024; omega, by show _ ≤ 7293034; omega⟩) (fun H locs hW => ?_)
                                    refine lv_istore (lv' := [(5, .int r210), (0, .ref b), (1, .ref (ad g 12 0)), (2, .ref (ad g 21 0)), (3, .ref (ad g 34 0)), (4, .int x4)]) hx hb dL_law_862 hl (by decide) rfl (fun ls hl => ?_)
                                    refine lv_aload_n hx hb dL_law_864 rfl (lv_at hl 3 rfl) ?_
                                    refine lv_aload_n hx hb dL_law_865 rfl (lv_at hl 1 rfl) ?_
                                    refine lv_iload hx hb dL_law_866 (lv_at hl 5 rfl) ?_
                                    refine lv_iconst (v := 1) hx hb dL_law_868 (by decide) ?_
                                    refine lv_iadd hx hb dL_law_869 ?_
                                    obtain ⟨b212, hf⟩ := chk_ex hf
                                    refine va_sld hx hb hX hbl hbA hW.2 b212 dL_law_870 ?_
                                    obtain ⟨r214, m215, e213, hf⟩ := bn2_ex hf
                                    refine k_i X hW (k_V (As := [.int (xs (x4 + 1).toNatClampNeg)]) (rest := []) X hW hml hl.1 (c_X6_goBack l g hDW  _ m211 _ _ e213) (r_recv X hW 21 0 (by decide) (by decide) rfl rfl) ⟨mw_1183, kw_X6_goBack⟩ ⟨⟨rfl, rfl⟩, ko_X6_goBack, ⟨Nat.le_of_ble_eq_true rfl, Nat.le_of_ble_eq_true rfl⟩⟩ rfl rfl (Nat.le_of_ble_eq_true rfl) dL_law_871 ⟨by show _ ≤ 601024; omega, by show _ ≤ 7293034; omega⟩) (fun H locs hW => ?_)
                                    refine lv_istore (lv' := [(6, .int r214), (5, .int r210), (0, .ref b), (1, .ref (ad g 12 0)), (2, .ref (ad g 21 0)), (3, .ref (ad g 34 0)), (4, .int x4)]) hx hb dL_law_874 hl (by decide) rfl (fun ls hl => ?_)
                                    refine lv_aload_n hx hb dL_law_876 rfl (lv_at hl 4 rfl) ?_
                                    obtain ⟨r217, e216, hf⟩ := bnd_ex hf
                                    refine k_i X hW (k_V (As := []) (rest := []) X hW hml hl.1 (c_X6_thrown l g hDW   m215 _ e216) (r_recv X hW 21 0 (by decide) (by decide) rfl rfl) ⟨mw_1005, kw_X6_thrown⟩ ⟨⟨rfl, rfl⟩, ko_X6_thrown, ⟨Nat.le_of_ble_eq_true rfl, Nat.le_of_ble_eq_true rfl⟩⟩ rfl rfl (Nat.le_of_ble_eq_true rfl) dL_law_877 ⟨by show _ ≤ 601024; omega, by show _ ≤ 7293034; omega⟩) (fun H locs hW => ?_)
                                    refine lv_iload hx hb dL_law_880 (lv_at hl 1 rfl) ?_
                                    refine lv_icmp_eq (tgt := 887) hx hb dL_law_882 (by decide) (fun c222 => ?_) (fun c222 => ?_)
                                    · replace hf := ite_t hf c222
                                      refine lv_iload hx hb dL_law_887 (lv_at hl 1 rfl) ?_
                                      refine lv_if_ne (tgt := 904) hx hb dL_law_889 (by decide) (fun c221 => ?_) (fun c221 => ?_)
                                      · replace hf := ite_f hf c221
                                        exact P_904 _ _ _ _ _ _ _ (by omega) (by omega) hW (lv_sub hl [2, 3, 4, 5, 6] rfl) hf
                                      · replace hf := ite_t hf c221
                                        refine lv_aload_n hx hb dL_law_892 rfl (lv_at hl 5 rfl) ?_
                                        refine lv_iconst (v := 0) hx hb dL_law_893 (by decide) ?_
                                        refine r_lald X hW vp01 dL_law_894 ?_
                                        refine lv_iload hx hb dL_law_895 (lv_at hl 0 rfl) ?_
                                        refine lv_i2l hx hb dL_law_897 (v := r214.toInt64) rfl ?_
                                        refine W.lcmp hx hb dL_law_898 ?_
                                        refine lv_if_eq (tgt := 904) hx hb dL_law_899 (by decide) (fun c220 => ?_) (fun c220 => ?_)
                                        · replace hf := ite_t hf c220
                                          exact P_904 _ _ _ _ _ _ _ (by omega) (by omega) hW (lv_sub hl [2, 3, 4, 5, 6] rfl) hf
                                        · replace hf := ite_f hf c220
                                          refine lv_iconst (v := 0) hx hb dL_law_902 (by decide) ?_
                                          exact absurd (someinj hf) (by decide)
                                    · replace hf := ite_f hf c222
                                      refine lv_iconst (v := 0) hx hb dL_law_885 (by decide) ?_
                                      exact absurd (someinj hf) (by decide)
                                  · replace hf := ite_f hf c223
                                    by_cases c237 : ((xs x4.toNatClampNeg) &&& 31) = 15
                                    · replace hf := ite_t hf c237
                                      refine lv_tableIn (off := 868) (tgt := 907) hx hb dL_law_39 (by rw [c237]; decide) (by rw [c237]; decide) (by rw [c237]; rfl) (by decide) ?_
                                      refine lv_aload_n hx hb dL_law_907 rfl (lv_at hl 1 rfl) ?_
                                      refine lv_aload_n hx hb dL_law_908 rfl (lv_at hl 3 rfl) ?_
                                      obtain ⟨r225, m226, e224, hf⟩ := bn2_ex hf
                                      refine k_i X hW (k_SW (As := [.ref (ad g 12 0), .ref (ad g 34 0)]) (rest := []) X hW hml hl.1 (c_L_undo l g hDW hst   mm _ _ e224) ⟨mw_869, kw_L_undo⟩ ⟨⟨rfl, rfl⟩, ko_L_undo, ⟨Nat.le_of_ble_eq_true rfl, Nat.le_of_ble_eq_true rfl⟩⟩ rfl rfl (Nat.le_of_ble_eq_true rfl) dL_law_909 ⟨by show _ ≤ 601024; omega, by show _ ≤ 7293034; omega⟩) (fun H locs hW => ?_)
                                      refine lv_istore (lv' := [(5, .int r225), (0, .ref b), (1, .ref (ad g 12 0)), (2, .ref (ad g 21 0)), (3, .ref (ad g 34 0)), (4, .int x4)]) hx hb dL_law_912 hl (by decide) rfl (fun ls hl => ?_)
                                      refine lv_aload_n hx hb dL_law_914 rfl (lv_at hl 3 rfl) ?_
                                      obtain ⟨r228, m229, e227, hf⟩ := bn2_ex hf
                                      refine k_i X hW (k_V (As := []) (rest := []) X hW hml hl.1 (c_X6_undo l g hDW   m226 _ _ e227) (r_recv X hW 21 0 (by decide) (by decide) rfl rfl) ⟨mw_1187, kw_X6_undo⟩ ⟨⟨rfl, rfl⟩, ko_X6_undo, ⟨Nat.le_of_ble_eq_true rfl, Nat.le_of_ble_eq_true rfl⟩⟩ rfl rfl (Nat.le_of_ble_eq_true rfl) dL_law_915 ⟨by show _ ≤ 601024; omega, by show _ ≤ 7293034; omega⟩) (fun H locs hW => ?_)
                                      refine lv_istore (lv' := [(6, .int r228), (5, .int r225), (0, .ref b), (1, .ref (ad g 12 0)), (2, .ref (ad g 21 0)), (3, .ref (ad g 34 0)), (4, .int x4)]) hx hb dL_law_918 hl (by decide) rfl (fun ls hl => ?_)
                                      refine lv_aload_n hx hb dL_law_920 rfl (lv_at hl 4 rfl) ?_
                                      obtain ⟨r231, e230, hf⟩ := bnd_ex hf
                                      refine k_i X hW (k_V (As := []) (rest := []) X hW hml hl.1 (c_X6_thrown l g hDW   m229 _ e230) (r_recv X hW 21 0 (by decide) (by decide) rfl rfl) ⟨mw_1005, kw_X6_thrown⟩ ⟨⟨rfl, rfl⟩, ko_X6_thrown, ⟨Nat.le_of_ble_eq_true rfl, Nat.le_of_ble_eq_true rfl⟩⟩ rfl rfl (Nat.le_of_ble_eq_true rfl) dL_law_921 ⟨by show _ ≤ 601024; omega, by show _ ≤ 7293034; omega⟩) (fun H locs hW => ?_)
                                      refine lv_iload hx hb dL_law_924 (lv_at hl 1 rfl) ?_
                                      refine lv_icmp_eq (tgt := 931) hx hb dL_law_926 (by decide) (fun c236 => ?_) (fun c236 => ?_)
                                      · replace hf := ite_t hf c236
                                        refine lv_iload hx hb dL_law_931 (lv_at hl 1 rfl) ?_
                                        refine lv_if_ne (tgt := 948) hx hb dL_law_933 (by decide) (fun c235 => ?_) (fun c235 => ?_)
                                        · replace hf := ite_f hf c235
                                          exact P_948 _ _ _ _ _ _ _ (by omega) (by omega) hW (lv_sub hl [2, 3, 4, 5, 6] rfl) hf
                                        · replace hf := ite_t hf c235
                                          refine lv_aload_n hx hb dL_law_936 rfl (lv_at hl 5 rfl) ?_
                                          refine lv_iconst (v := 0) hx hb dL_law_937 (by decide) ?_
                                          refine r_lald X hW vp01 dL_law_938 ?_
                                          refine lv_iload hx hb dL_law_939 (lv_at hl 0 rfl) ?_
                                          refine lv_i2l hx hb dL_law_941 (v := r228.toInt64) rfl ?_
                                          refine W.lcmp hx hb dL_law_942 ?_
                                          refine lv_if_eq (tgt := 948) hx hb dL_law_943 (by decide) (fun c234 => ?_) (fun c234 => ?_)
                                          · replace hf := ite_t hf c234
                                            exact P_948 _ _ _ _ _ _ _ (by omega) (by omega) hW (lv_sub hl [2, 3, 4, 5, 6] rfl) hf
                                          · replace hf := ite_f hf c234
                                            refine lv_iconst (v := 0) hx hb dL_law_946 (by decide) ?_
                                            exact absurd (someinj hf) (by decide)
                                      · replace hf := ite_f hf c236
                                        refine lv_iconst (v := 0) hx hb dL_law_929 (by decide) ?_
                                        exact absurd (someinj hf) (by decide)
                                    · replace hf := ite_f hf c237
                                      by_cases c255 : ((xs x4.toNatClampNeg) &&& 31) = 16
                                      · replace hf := ite_t hf c255
                                        refine lv_tableIn (off := 912) (tgt := 951) hx hb dL_law_39 (by rw [c255]; decide) (by rw [c255]; decide) (by rw [c255]; rfl) (by decide) ?_
                                        refine lv_aload_n hx hb dL_law_951 rfl (lv_at hl 1 rfl) ?_
                                        refine lv_aload_n hx hb dL_law_952 rfl (lv_at hl 0 rfl) ?_
                                        refine lv_iload hx hb dL_law_953 (lv_at hl 4 rfl) ?_
                                        refine lv_iconst (v := 1) hx hb dL_law_955 (by decide) ?_
                                        refine lv_iadd hx hb dL_law_956 ?_
                                        obtain ⟨b238, hf⟩ := chk_ex hf
                                        refine va_sld hx hb hX hbl hbA hW.2 b238 dL_law_957 ?_
                                        refine lv_aload_n hx hb dL_law_958 rfl (lv_at hl 0 rfl) ?_
                                        refine lv_iload hx hb dL_law_959 (lv_at hl 4 rfl) ?_
                                        refine lv_iconst (v := 2) hx hb dL_law_961 (by decide) ?_
                                        refine lv_iadd hx hb dL_law_962 ?_
                                        obtain ⟨b239, hf⟩ := chk_ex hf
                                        refine va_sld hx hb hX hbl hbA hW.2 b239 dL_law_963 ?_
                                        refine lv_aload_n hx hb dL_law_964 rfl (lv_at hl 3 rfl) ?_
                                        obtain ⟨r241, m242, e240, hf⟩ := bn2_ex hf
                                        refine k_i X hW (k_SW (As := [.ref (ad g 12 0), .int (xs (x4 + 1).toNatClampNeg), .int (xs (x4 + 2).toNatClampNeg), .ref (ad g 34 0)]) (rest := []) X hW hml hl.1 (c_L_slotOf l g hDW hst  _ _ mm _ _ e240) ⟨mw_877, kw_L_slotOf⟩ ⟨⟨rfl, rfl⟩, ko_L_slotOf, ⟨Nat.le_of_ble_eq_true rfl, Nat.le_of_ble_eq_true rfl⟩⟩ rfl rfl (Nat.le_of_ble_eq_true rfl) dL_law_965 ⟨by show _ ≤ 601024; omega, by show _ ≤ 7293034; omega⟩) (fun H locs hW => ?_)
                                        refine lv_istore (lv' := [(5, .int r241), (0, .ref b), (1, .ref (ad g 12 0)), (2, .ref (ad g 21 0)), (3, .ref (ad g 34 0)), (4, .int x4)]) hx hb dL_law_968 hl (by decide) rfl (fun ls hl => ?_)
                                        refine lv_aload_n hx hb dL_law_970 rfl (lv_at hl 3 rfl) ?_
                                        refine lv_aload_n hx hb dL_law_971 rfl (lv_at hl 1 rfl) ?_
                                        refine lv_iload hx hb dL_law_972 (lv_at hl 5 rfl) ?_
                                        refine lv_iconst (v := 1) hx hb dL_law_974 (by decide) ?_
                                        refine lv_iadd hx hb dL_law_975 ?_
                                        obtain ⟨b243, hf⟩ := chk_ex hf
                                        refine va_sld hx hb hX hbl hbA hW.2 b243 dL_law_976 ?_
                                        refine lv_aload_n hx hb dL_law_977 rfl (lv_at hl 1 rfl) ?_
                                        refine lv_iload hx hb dL_law_978 (lv_at hl 5 rfl) ?_
                                        refine lv_iconst (v := 2) hx hb dL_law_980 (by decide) ?_
                                        refine lv_iadd hx hb dL_law_981 ?_
                                        obtain ⟨b244, hf⟩ := chk_ex hf
                                        refine va_sld hx hb hX hbl hbA hW.2 b244 dL_law_982 ?_
                                        obtain ⟨r246, m247, e245, hf⟩ := bn2_ex hf
                                        refine k_i X hW (k_V (As := [.int (xs (x4 + 1).toNatClampNeg), .int (xs (x4 + 2).toNatClampNeg)]) (rest := []) X hW hml hl.1 (c_X6_slotOf l g hDW  _ _ m242 _ _ e245) (r_recv X hW 21 0 (by decide) (by decide) rfl rfl) ⟨mw_1191, kw_X6_slotOf⟩ ⟨⟨rfl, rfl⟩, ko_X6_slotOf, ⟨Nat.le_of_ble_eq_true rfl, Nat.le_of_ble_eq_true rfl⟩⟩ rfl rfl (Nat.le_of_ble_eq_true rfl) dL_law_983 ⟨by show _ ≤ 601024; omega, by show _ ≤ 7293034; omega⟩) (fun H locs hW => ?_)
                                        refine lv_istore (lv' := [(6, .int r246), (5, .int r241), (0, .ref b), (1, .ref (ad g 12 0)), (2, .ref (ad g 21 0)), (3, .ref (ad g 34 0)), (4, .int x4)]) hx hb dL_law_986 hl (by decide) rfl (fun ls hl => ?_)
                                        refine lv_aload_n hx hb dL_law_988 rfl (lv_at hl 4 rfl) ?_
                                        obtain ⟨r249, e248, hf⟩ := bnd_ex hf
                                        refine k_i X hW (k_V (As := []) (rest := []) X hW hml hl.1 (c_X6_thrown l g hDW   m247 _ e248) (r_recv X hW 21 0 (by decide) (by decide) rfl rfl) ⟨mw_1005, kw_X6_thrown⟩ ⟨⟨rfl, rfl⟩, ko_X6_thrown, ⟨Nat.le_of_ble_eq_true rfl, Nat.le_of_ble_eq_true rfl⟩⟩ rfl rfl (Nat.le_of_ble_eq_true rfl) dL_law_989 ⟨by show _ ≤ 601024; omega, by show _ ≤ 7293034; omega⟩) (fun H locs hW => ?_)
                                        refine lv_iload hx hb dL_law_992 (lv_at hl 1 rfl) ?_
                                        refine lv_icmp_eq (tgt := 999) hx hb dL_law_994 (by decide) (fun c254 => ?_) (fun c254 => ?_)
                                        · replace hf := ite_t hf c254
                                          refine lv_iload hx hb dL_law_999 (lv_at hl 1 rfl) ?_
                                          refine lv_if_ne (tgt := 1016) hx hb dL_law_1001 (by decide) (fun c253 => ?_) (fun c253 => ?_)
                                          · replace hf := ite_f hf c253
                                            exact P_1016 _ _ _ _ _ _ _ (by omega) (by omega) hW (lv_sub hl [2, 3, 4, 5, 6] rfl) hf
                                          · replace hf := ite_t hf c253
                                            refine lv_aload_n hx hb dL_law_1004 rfl (lv_at hl 5 rfl) ?_
                                            refine lv_iconst (v := 0) hx hb dL_law_1005 (by decide) ?_
                                            refine r_lald X hW vp01 dL_law_1006 ?_
                                            refine lv_iload hx hb dL_law_1007 (lv_at hl 0 rfl) ?_
                                            refine lv_i2l hx hb dL_law_1009 (v := r246.toInt64) rfl ?_
                                            refine W.lcmp hx hb dL_law_1010 ?_
                                            refine lv_if_eq (tgt := 1016) hx hb dL_law_1011 (by decide) (fun c252 => ?_) (fun c252 => ?_)
                                            · replace hf := ite_t hf c252
                                              exact P_1016 _ _ _ _ _ _ _ (by omega) (by omega) hW (lv_sub hl [2, 3, 4, 5, 6] rfl) hf
                                            · replace hf := ite_f hf c252
                                              refine lv_iconst (v := 0) hx hb dL_law_1014 (by decide) ?_
                                              exact absurd (someinj hf) (by decide)
                                        · replace hf := ite_f hf c254
                                          refine lv_iconst (v := 0) hx hb dL_law_997 (by decide) ?_
                                          exact absurd (someinj hf) (by decide)
                                      · replace hf := ite_f hf c255
                                        by_cases c275 : ((xs x4.toNatClampNeg) &&& 31) = 17
                                        · replace hf := ite_t hf c275
                                          refine lv_tableIn (off := 980) (tgt := 1019) hx hb dL_law_39 (by rw [c275]; decide) (by rw [c275]; decide) (by rw [c275]; rfl) (by decide) ?_
                                          refine lv_aload_n hx hb dL_law_1019 rfl (lv_at hl 1 rfl) ?_
                                          refine lv_aload_n hx hb dL_law_1020 rfl (lv_at hl 0 rfl) ?_
                                          refine lv_iload hx hb dL_law_1021 (lv_at hl 4 rfl) ?_
                                          refine lv_iconst (v := 1) hx hb dL_law_1023 (by decide) ?_
                                          refine lv_iadd hx hb dL_law_1024 ?_
                                          obtain ⟨b256, hf⟩ := chk_ex hf
                                          refine va_sld hx hb hX hbl hbA hW.2 b256 dL_law_1025 ?_
                                          refine lv_aload_n hx hb dL_law_1026 rfl (lv_at hl 0 rfl) ?_
                                          refine lv_iload hx hb dL_law_1027 (lv_at hl 4 rfl) ?_
                                          refine lv_iconst (v := 2) hx hb dL_law_1029 (by decide) ?_
                                          refine lv_iadd hx hb dL_law_1030 ?_
                                          obtain ⟨b257, hf⟩ := chk_ex hf
                                          refine va_sld hx hb hX hbl hbA hW.2 b257 dL_law_1031 ?_
                                          refine lv_aload_n hx hb dL_law_1032 rfl (lv_at hl 0 rfl) ?_
                                          refine lv_iload hx hb dL_law_1033 (lv_at hl 4 rfl) ?_
                                          refine lv_iconst (v := 3) hx hb dL_law_1035 (by decide) ?_
                                          refine lv_iadd hx hb dL_law_1036 ?_
                                          obtain ⟨b258, hf⟩ := chk_ex hf
                                          refine va_sld hx hb hX hbl hbA hW.2 b258 dL_law_1037 ?_
                                          refine lv_aload_n hx hb dL_law_1038 rfl (lv_at hl 3 rfl) ?_
                                          obtain ⟨r260, m261, e259, hf⟩ := bn2_ex hf
                                          refine k_i X hW (k_SW (As := [.ref (ad g 12 0), .int (xs (x4 + 1).toNatClampNeg), .int (xs (x4 + 2).toNatClampNeg), .int (xs (x4 + 3).toNatClampNeg), .ref (ad g 34 0)]) (rest := []) X hW hml hl.1 (c_L_segmentOf l g hDW hst  _ _ _ mm _ _ e259) ⟨mw_888, kw_L_segmentOf⟩ ⟨⟨rfl, rfl⟩, ko_L_segmentOf, ⟨Nat.le_of_ble_eq_true rfl, Nat.le_of_ble_eq_true rfl⟩⟩ rfl rfl (Nat.le_of_ble_eq_true rfl) dL_law_1039 ⟨by show _ ≤ 601024; omega, by show _ ≤ 7293034; omega⟩) (fun H locs hW => ?_)
                                          refine lv_istore (lv' := [(5, .int r260), (0, .ref b), (1, .ref (ad g 12 0)), (2, .ref (ad g 21 0)), (3, .ref (ad g 34 0)), (4, .int x4)]) hx hb dL_law_1042 hl (by decide) rfl (fun ls hl => ?_)
                                          refine lv_aload_n hx hb dL_law_1044 rfl (lv_at hl 3 rfl) ?_
                                          refine lv_aload_n hx hb dL_law_1045 rfl (lv_at hl 1 rfl) ?_
                                          refine lv_iload hx hb dL_law_1046 (lv_at hl 5 rfl) ?_
                                          refine lv_iconst (v := 1) hx hb dL_law_1048 (by decide) ?_
                                          refine lv_iadd hx hb dL_law_1049 ?_
                                          obtain ⟨b262, hf⟩ := chk_ex hf
                                          refine va_sld hx hb hX hbl hbA hW.2 b262 dL_law_1050 ?_
                                          refine lv_aload_n hx hb dL_law_1051 rfl (lv_at hl 1 rfl) ?_
                                          refine lv_iload hx hb dL_law_1052 (lv_at hl 5 rfl) ?_
                                          refine lv_iconst (v := 2) hx hb dL_law_1054 (by decide) ?_
                                          refine lv_iadd hx hb dL_law_1055 ?_
                                          obtain ⟨b263, hf⟩ := chk_ex hf
                                          refine va_sld hx hb hX hbl hbA hW.2 b263 dL_law_1056 ?_
                                          refine lv_aload_n hx hb dL_law_1057 rfl (lv_at hl 1 rfl) ?_
                                          refine lv_iload hx hb dL_law_1058 (lv_at hl 5 rfl) ?_
                                          refine lv_iconst (v := 3) hx hb dL_law_1060 (by decide) ?_
                                          refine lv_iadd hx hb dL_law_1061 ?_
                                          obtain ⟨b264, hf⟩ := chk_ex hf
                                          refine va_sld hx hb hX hbl hbA hW.2 b264 dL_law_1062 ?_
                                          obtain ⟨r266, m267, e265, hf⟩ := bn2_ex hf
                                          refine k_i X hW (k_V (As := [.int (xs (x4 + 1).toNatClampNeg), .int (xs (x4 + 2).toNatClampNeg), .int (xs (x4 + 3).toNatClampNeg)]) (rest := []) X hW hml hl.1 (c_X6_segmentOf l g hDW  _ _ _ m261 _ _ e265) (r_recv X hW 21 0 (by decide) (by decide) rfl rfl) ⟨mw_1207, kw_X6_segmentOf⟩ ⟨⟨rfl, rfl⟩, ko_X6_segmentOf, ⟨Nat.le_of_ble_eq_true rfl, Nat.le_of_ble_eq_true rfl⟩⟩ rfl rfl (Nat.le_of_ble_eq_true rfl) dL_law_1063 ⟨by show _ ≤ 601024; omega, by show _ ≤ 7293034; omega⟩) (fun H locs hW => ?_)
                                          refine lv_istore (lv' := [(6, .int r266), (5, .int r260), (0, .ref b), (1, .ref (ad g 12 0)), (2, .ref (ad g 21 0)), (3, .ref (ad g 34 0)), (4, .int x4)]) hx hb dL_law_1066 hl (by decide) rfl (fun ls hl => ?_)
                                          refine lv_aload_n hx hb dL_law_1068 rfl (lv_at hl 4 rfl) ?_
                                          obtain ⟨r269, e268, hf⟩ := bnd_ex hf
                                          refine k_i X hW (k_V (As := []) (rest := []) X hW hml hl.1 (c_X6_thrown l g hDW   m267 _ e268) (r_recv X hW 21 0 (by decide) (by decide) rfl rfl) ⟨mw_1005, kw_X6_thrown⟩ ⟨⟨rfl, rfl⟩, ko_X6_thrown, ⟨Nat.le_of_ble_eq_true rfl, Nat.le_of_ble_eq_true rfl⟩⟩ rfl rfl (Nat.le_of_ble_eq_true rfl) dL_law_1069 ⟨by show _ ≤ 601024; omega, by show _ ≤ 7293034; omega⟩) (fun H locs hW => ?_)
                                          refine lv_iload hx hb dL_law_1072 (lv_at hl 1 rfl) ?_
                                          refine lv_icmp_eq (tgt := 1079) hx hb dL_law_1074 (by decide) (fun c274 => ?_) (fun c274 => ?_)
                                          · replace hf := ite_t hf c274
                                            refine lv_iload hx hb dL_law_1079 (lv_at hl 1 rfl) ?_
                                            refine lv_if_ne (tgt := 1096) hx hb dL_law_1081 (by decide) (fun c273 => ?_) (fun c273 => ?_)
                                            · replace hf := ite_f hf c273
                                              exact P_1096 _ _ _ _ _ _ _ (by omega) (by omega) hW (lv_sub hl [2, 3, 4, 5, 6] rfl) hf
                                            · replace hf := ite_t hf c273
                                              refine lv_aload_n hx hb dL_law_1084 rfl (lv_at hl 5 rfl) ?_
                                              refine lv_iconst (v := 0) hx hb dL_law_1085 (by decide) ?_
                                              refine r_lald X hW vp01 dL_law_1086 ?_
                                              refine lv_iload hx hb dL_law_1087 (lv_at hl 0 rfl) ?_
                                              refine lv_i2l hx hb dL_law_1089 (v := r266.toInt64) rfl ?_
                                              refine W.lcmp hx hb dL_law_1090 ?_
                                              refine lv_if_eq (tgt := 1096) hx hb dL_law_1091 (by decide) (fun c272 => ?_) (fun c272 => ?_)
                                              · replace hf := ite_t hf c272
                                                exact P_1096 _ _ _ _ _ _ _ (by omega) (by omega) hW (lv_sub hl [2, 3, 4, 5, 6] rfl) hf
                                              · replace hf := ite_f hf c272
                                                refine lv_iconst (v := 0) hx hb dL_law_1094 (by decide) ?_
                                                exact absurd (someinj hf) (by decide)
                                          · replace hf := ite_f hf c274
                                            refine lv_iconst (v := 0) hx hb dL_law_1077 (by decide) ?_
                                            exact absurd (someinj hf) (by decide)
                                        · replace hf := ite_f hf c275
                                          by_cases c291 : ((xs x4.toNatClampNeg) &&& 31) = 18
                                          · replace hf := ite_t hf c291
                                            refine lv_tableIn (off := 1060) (tgt := 1099) hx hb dL_law_39 (by rw [c291]; decide) (by rw [c291]; decide) (by rw [c291]; rfl) (by decide) ?_
                                            refine lv_aload_n hx hb dL_law_1099 rfl (lv_at hl 1 rfl) ?_
                                            refine lv_aload_n hx hb dL_law_1100 rfl (lv_at hl 0 rfl) ?_
                                            refine lv_iload hx hb dL_law_1101 (lv_at hl 4 rfl) ?_
                                            refine lv_iconst (v := 1) hx hb dL_law_1103 (by decide) ?_
                                            refine lv_iadd hx hb dL_law_1104 ?_
                                            obtain ⟨b276, hf⟩ := chk_ex hf
                                            refine va_sld hx hb hX hbl hbA hW.2 b276 dL_law_1105 ?_
                                            refine lv_aload_n hx hb dL_law_1106 rfl (lv_at hl 3 rfl) ?_
                                            obtain ⟨r278, m279, e277, hf⟩ := bn2_ex hf
                                            refine k_i X hW (k_SW (As := [.ref (ad g 12 0), .int (xs (x4 + 1).toNatClampNeg), .ref (ad g 34 0)]) (rest := []) X hW hml hl.1 (c_L_count l g hDW hst  _ mm _ _ e277) ⟨mw_895, kw_L_count⟩ ⟨⟨rfl, rfl⟩, ko_L_count, ⟨Nat.le_of_ble_eq_true rfl, Nat.le_of_ble_eq_true rfl⟩⟩ rfl rfl (Nat.le_of_ble_eq_true rfl) dL_law_1107 ⟨by show _ ≤ 601024; omega, by show _ ≤ 7293034; omega⟩) (fun H locs hW => ?_)
                                            refine lv_istore (lv' := [(5, .int r278), (0, .ref b), (1, .ref (ad g 12 0)), (2, .ref (ad g 21 0)), (3, .ref (ad g 34 0)), (4, .int x4)]) hx hb dL_law_1110 hl (by decide) rfl (fun ls hl => ?_)
                                            refine lv_aload_n hx hb dL_law_1112 rfl (lv_at hl 3 rfl) ?_
                                            refine lv_aload_n hx hb dL_law_1113 rfl (lv_at hl 1 rfl) ?_
                                            refine lv_iload hx hb dL_law_1114 (lv_at hl 5 rfl) ?_
                                            refine lv_iconst (v := 1) hx hb dL_law_1116 (by decide) ?_
                                            refine lv_iadd hx hb dL_law_1117 ?_
                                            obtain ⟨b280, hf⟩ := chk_ex hf
                                            refine va_sld hx hb hX hbl hbA hW.2 b280 dL_law_1118 ?_
                                            obtain ⟨r282, m283, e281, hf⟩ := bn2_ex hf
                                            refine k_i X hW (k_V (As := [.int (xs (x4 + 1).toNatClampNeg)]) (rest := []) X hW hml hl.1 (c_X6_count l g hDW  _ m279 _ _ e281) (r_recv X hW 21 0 (by decide) (by decide) rfl rfl) ⟨mw_1215, kw_X6_count⟩ ⟨⟨rfl, rfl⟩, ko_X6_count, ⟨Nat.le_of_ble_eq_true rfl, Nat.le_of_ble_eq_true rfl⟩⟩ rfl rfl (Nat.le_of_ble_eq_true rfl) dL_law_1119 ⟨by show _ ≤ 601024; omega, by show _ ≤ 7293034; omega⟩) (fun H locs hW => ?_)
                                            refine lv_istore (lv' := [(6, .int r282), (5, .int r278), (0, .ref b), (1, .ref (ad g 12 0)), (2, .ref (ad g 21 0)), (3, .ref (ad g 34 0)), (4, .int x4)]) hx hb dL_law_1122 hl (by decide) rfl (fun ls hl => ?_)
                                            refine lv_aload_n hx hb dL_law_1124 rfl (lv_at hl 4 rfl) ?_
                                            obtain ⟨r285, e284, hf⟩ := bnd_ex hf
                                            refine k_i X hW (k_V (As := []) (rest := []) X hW hml hl.1 (c_X6_thrown l g hDW   m283 _ e284) (r_recv X hW 21 0 (by decide) (by decide) rfl rfl) ⟨mw_1005, kw_X6_thrown⟩ ⟨⟨rfl, rfl⟩, ko_X6_thrown, ⟨Nat.le_of_ble_eq_true rfl, Nat.le_of_ble_eq_true rfl⟩⟩ rfl rfl (Nat.le_of_ble_eq_true rfl) dL_law_1125 ⟨by show _ ≤ 601024; omega, by show _ ≤ 7293034; omega⟩) (fun H locs hW => ?_)
                                            refine lv_iload hx hb dL_law_1128 (lv_at hl 1 rfl) ?_
                                            refine lv_icmp_eq (tgt := 1135) hx hb dL_law_1130 (by decide) (fun c290 => ?_) (fun c290 => ?_)
                                            · replace hf := ite_t hf c290
                                              refine lv_iload hx hb dL_law_1135 (lv_at hl 1 rfl) ?_
                                              refine lv_if_ne (tgt := 1152) hx hb dL_law_1137 (by decide) (fun c289 => ?_) (fun c289 => ?_)
                                              · replace hf := ite_f hf c289
                                                exact P_1152 _ _ _ _ _ _ _ (by omega) (by omega) hW (lv_sub hl [2, 3, 4, 5, 6] rfl) hf
                                              · replace hf := ite_t hf c289
                                                refine lv_aload_n hx hb dL_law_1140 rfl (lv_at hl 5 rfl) ?_
                                                refine lv_iconst (v := 0) hx hb dL_law_1141 (by decide) ?_
                                                refine r_lald X hW vp01 dL_law_1142 ?_
                                                refine lv_iload hx hb dL_law_1143 (lv_at hl 0 rfl) ?_
                                                refine lv_i2l hx hb dL_law_1145 (v := r282.toInt64) rfl ?_
                                                refine W.lcmp hx hb dL_law_1146 ?_
                                                refine lv_if_eq (tgt := 1152) hx hb dL_law_1147 (by decide) (fun c288 => ?_) (fun c288 => ?_)
                                                · replace hf := ite_t hf c288
                                                  exact P_1152 _ _ _ _ _ _ _ (by omega) (by omega) hW (lv_sub hl [2, 3, 4, 5, 6] rfl) hf
                                                · replace hf := ite_f hf c288
                                                  refine lv_iconst (v := 0) hx hb dL_law_1150 (by decide) ?_
                                                  exact absurd (someinj hf) (by decide)
                                            · replace hf := ite_f hf c290
                                              refine lv_iconst (v := 0) hx hb dL_law_1133 (by decide) ?_
                                              exact absurd (someinj hf) (by decide)
                                          · replace hf := ite_f hf c291
                                            by_cases c307 : ((xs x4.toNatClampNeg) &&& 31) = 19
                                            · replace hf := ite_t hf c307
                                              refine lv_tableIn (off := 1116) (tgt := 1155) hx hb dL_law_39 (by rw [c307]; decide) (by rw [c307]; decide) (by rw [c307]; rfl) (by decide) ?_
                                              refine lv_aload_n hx hb dL_law_1155 rfl (lv_at hl 1 rfl) ?_
                                              refine lv_aload_n hx hb dL_law_1156 rfl (lv_at hl 0 rfl) ?_
                                              refine lv_iload hx hb dL_law_1157 (lv_at hl 4 rfl) ?_
                                              refine lv_iconst (v := 1) hx hb dL_law_1159 (by decide) ?_
                                              refine lv_iadd hx hb dL_law_1160 ?_
                                              obtain ⟨b292, hf⟩ := chk_ex hf
                                              refine va_sld hx hb hX hbl hbA hW.2 b292 dL_law_1161 ?_
                                              refine lv_aload_n hx hb dL_law_1162 rfl (lv_at hl 3 rfl) ?_
                                              obtain ⟨r294, m295, e293, hf⟩ := bn2_ex hf
                                              refine k_i X hW (k_SW (As := [.ref (ad g 12 0), .int (xs (x4 + 1).toNatClampNeg), .ref (ad g 34 0)]) (rest := []) X hW hml hl.1 (c_L_setting l g hDW hst  _ mm _ _ e293) ⟨mw_902, kw_L_setting⟩ ⟨⟨rfl, rfl⟩, ko_L_setting, ⟨Nat.le_of_ble_eq_true rfl, Nat.le_of_ble_eq_true rfl⟩⟩ rfl rfl (Nat.le_of_ble_eq_true rfl) dL_law_1163 ⟨by show _ ≤ 601024; omega, by show _ ≤ 7293034; omega⟩) (fun H locs hW => ?_)
                                              refine lv_istore (lv' := [(5, .int r294), (0, .ref b), (1, .ref (ad g 12 0)), (2, .ref (ad g 21 0)), (3, .ref (ad g 34 0)), (4, .int x4)]) hx hb dL_law_1166 hl (by decide) rfl (fun ls hl => ?_)
                                              refine lv_aload_n hx hb dL_law_1168 rfl (lv_at hl 3 rfl) ?_
                                              refine lv_aload_n hx hb dL_law_1169 rfl (lv_at hl 1 rfl) ?_
                                              refine lv_iload hx hb dL_law_1170 (lv_at hl 5 rfl) ?_
                                              refine lv_iconst (v := 1) hx hb dL_law_1172 (by decide) ?_
                                              refine lv_iadd hx hb dL_law_1173 ?_
                                              obtain ⟨b296, hf⟩ := chk_ex hf
                                              refine va_sld hx hb hX hbl hbA hW.2 b296 dL_law_1174 ?_
                                              obtain ⟨r298, m299, e297, hf⟩ := bn2_ex hf
                                              refine k_i X hW (k_V (As := [.int (xs (x4 + 1).toNatClampNeg)]) (rest := []) X hW hml hl.1 (c_X6_setting l g hDW  _ m295 _ _ e297) (r_recv X hW 21 0 (by decide) (by decide) rfl rfl) ⟨mw_1243, kw_X6_setting⟩ ⟨⟨rfl, rfl⟩, ko_X6_setting, ⟨Nat.le_of_ble_eq_true rfl, Nat.le_of_ble_eq_true rfl⟩⟩ rfl rfl (Nat.le_of_ble_eq_true rfl) dL_law_1175 ⟨by show _ ≤ 601024; omega, by show _ ≤ 7293034; omega⟩) (fun H locs hW => ?_)
                                              refine lv_istore (lv' := [(6, .int r298), (5, .int r294), (0, .ref b), (1, .ref (ad g 12 0)), (2, .ref (ad g 21 0)), (3, .ref (ad g 34 0)), (4, .int x4)]) hx hb dL_law_1178 hl (by decide) rfl (fun ls hl => ?_)
                                              refine lv_aload_n hx hb dL_law_1180 rfl (lv_at hl 4 rfl) ?_
                                              obtain ⟨r301, e300, hf⟩ := bnd_ex hf
                                              refine k_i X hW (k_V (As := []) (rest := []) X hW hml hl.1 (c_X6_thrown l g hDW   m299 _ e300) (r_recv X hW 21 0 (by decide) (by decide) rfl rfl) ⟨mw_1005, kw_X6_thrown⟩ ⟨⟨rfl, rfl⟩, ko_X6_thrown, ⟨Nat.le_of_ble_eq_true rfl, Nat.le_of_ble_eq_true rfl⟩⟩ rfl rfl (Nat.le_of_ble_eq_true rfl) dL_law_1181 ⟨by show _ ≤ 601024; omega, by show _ ≤ 7293034; omega⟩) (fun H locs hW => ?_)
                                              refine lv_iload hx hb dL_law_1184 (lv_at hl 1 rfl) ?_
                                              refine lv_icmp_eq (tgt := 1191) hx hb dL_law_1186 (by decide) (fun c306 => ?_) (fun c306 => ?_)
                                              · replace hf := ite_t hf c306
                                                refine lv_iload hx hb dL_law_1191 (lv_at hl 1 rfl) ?_
                                                refine lv_if_ne (tgt := 1208) hx hb dL_law_1193 (by decide) (fun c305 => ?_) (fun c305 => ?_)
                                                · replace hf := ite_f hf c305
                                                  exact P_1208 _ _ _ _ _ _ _ (by omega) (by omega) hW (lv_sub hl [2, 3, 4, 5, 6] rfl) hf
                                                · replace hf := ite_t hf c305
                                                  refine lv_aload_n hx hb dL_law_1196 rfl (lv_at hl 5 rfl) ?_
                                                  refine lv_iconst (v := 0) hx hb dL_law_1197 (by decide) ?_
                                                  refine r_lald X hW vp01 dL_law_1198 ?_
                                                  refine lv_iload hx hb dL_law_1199 (lv_at hl 0 rfl) ?_
                                                  refine lv_i2l hx hb dL_law_1201 (v := r298.toInt64) rfl ?_
                                                  refine W.lcmp hx hb dL_law_1202 ?_
                                                  refine lv_if_eq (tgt := 1208) hx hb dL_law_1203 (by decide) (fun c304 => ?_) (fun c304 => ?_)
                                                  · replace hf := ite_t hf c304
                                                    exact P_1208 _ _ _ _ _ _ _ (by omega) (by omega) hW (lv_sub hl [2, 3, 4, 5, 6] rfl) hf
                                                  · replace hf := ite_f hf c304
                                                    refine lv_iconst (v := 0) hx hb dL_law_1206 (by decide) ?_
                                                    exact absurd (someinj hf) (by decide)
                                              · replace hf := ite_f hf c306
                                                refine lv_iconst (v := 0) hx hb dL_law_1189 (by decide) ?_
                                                exact absurd (someinj hf) (by decide)
                                            · replace hf := ite_f hf c307
                                              by_cases c325 : ((xs x4.toNatClampNeg) &&& 31) = 20
                                              · replace hf := ite_t hf c325
                                                refine lv_tableIn (off := 1172) (tgt := 1211) hx hb dL_law_39 (by rw [c325]; decide) (by rw [c325]; decide) (by rw [c325]; rfl) (by decide) ?_
                                                refine lv_aload_n hx hb dL_law_1211 rfl (lv_at hl 1 rfl) ?_
                                                refine lv_aload_n hx hb dL_law_1212 rfl (lv_at hl 0 rfl) ?_
                                                refine lv_iload hx hb dL_law_1213 (lv_at hl 4 rfl) ?_
                                                refine lv_iconst (v := 1) hx hb dL_law_1215 (by decide) ?_
                                                refine lv_iadd hx hb dL_law_1216 ?_
                                                obtain ⟨b308, hf⟩ := chk_ex hf
                                                refine va_sld hx hb hX hbl hbA hW.2 b308 dL_law_1217 ?_
                                                refine lv_aload_n hx hb dL_law_1218 rfl (lv_at hl 0 rfl) ?_
                                                refine lv_iload hx hb dL_law_1219 (lv_at hl 4 rfl) ?_
                                                refine lv_iconst (v := 2) hx hb dL_law_1221 (by decide) ?_
                                                refine lv_iadd hx hb dL_law_1222 ?_
                                                obtain ⟨b309, hf⟩ := chk_ex hf
                                                refine va_sld hx hb hX hbl hbA hW.2 b309 dL_law_1223 ?_
                                                refine lv_aload_n hx hb dL_law_1224 rfl (lv_at hl 3 rfl) ?_
                                                obtain ⟨r311, m312, e310, hf⟩ := bn2_ex hf
                                                refine k_i X hW (k_SW (As := [.ref (ad g 12 0), .int (xs (x4 + 1).toNatClampNeg), .int (xs (x4 + 2).toNatClampNeg), .ref (ad g 34 0)]) (rest := []) X hW hml hl.1 (c_L_couldBe l g hDW hst  _ _ mm _ _ e310) ⟨mw_909, kw_L_couldBe⟩ ⟨⟨rfl, rfl⟩, ko_L_couldBe, ⟨Nat.le_of_ble_eq_true rfl, Nat.le_of_ble_eq_true rfl⟩⟩ rfl rfl (Nat.le_of_ble_eq_true rfl) dL_law_1225 ⟨by show _ ≤ 601024; omega, by show _ ≤ 7293034; omega⟩) (fun H locs hW => ?_)
                                                refine lv_istore (lv' := [(5, .int r311), (0, .ref b), (1, .ref (ad g 12 0)), (2, .ref (ad g 21 0)), (3, .ref (ad g 34 0)), (4, .int x4)]) hx hb dL_law_1228 hl (by decide) rfl (fun ls hl => ?_)
                                                refine lv_aload_n hx hb dL_law_1230 rfl (lv_at hl 3 rfl) ?_
                                                refine lv_aload_n hx hb dL_law_1231 rfl (lv_at hl 1 rfl) ?_
                                                refine lv_iload hx hb dL_law_1232 (lv_at hl 5 rfl) ?_
                                                refine lv_iconst (v := 1) hx hb dL_law_1234 (by decide) ?_
                                                refine lv_iadd hx hb dL_law_1235 ?_
                                                obtain ⟨b313, hf⟩ := chk_ex hf
                                                refine va_sld hx hb hX hbl hbA hW.2 b313 dL_law_1236 ?_
                                                refine lv_aload_n hx hb dL_law_1237 rfl (lv_at hl 1 rfl) ?_
                                                refine lv_iload hx hb dL_law_1238 (lv_at hl 5 rfl) ?_
                                                refine lv_iconst (v := 2) hx hb dL_law_1240 (by decide) ?_
                                                refine lv_iadd hx hb dL_law_1241 ?_
                                                obtain ⟨b314, hf⟩ := chk_ex hf
                                                refine va_sld hx hb hX hbl hbA hW.2 b314 dL_law_1242 ?_
                                                obtain ⟨r316, m317, e315, hf⟩ := bn2_ex hf
                                                refine k_i X hW (k_V (As := [.int (xs (x4 + 1).toNatClampNeg), .int (xs (x4 + 2).toNatClampNeg)]) (rest := []) X hW hml hl.1 (c_X6_couldBe l g hDW  _ _ m312 _ _ e315) (r_recv X hW 21 0 (by decide) (by decide) rfl rfl) ⟨mw_1247, kw_X6_couldBe⟩ ⟨⟨rfl, rfl⟩, ko_X6_couldBe, ⟨Nat.le_of_ble_eq_true rfl, Nat.le_of_ble_eq_true rfl⟩⟩ rfl rfl (Nat.le_of_ble_eq_true rfl) dL_law_1243 ⟨by show _ ≤ 601024; omega, by show _ ≤ 7293034; omega⟩) (fun H locs hW => ?_)
                                                refine lv_istore (lv' := [(6, .int r316), (5, .int r311), (0, .ref b), (1, .ref (ad g 12 0)), (2, .ref (ad g 21 0)), (3, .ref (ad g 34 0)), (4, .int x4)]) hx hb dL_law_1246 hl (by decide) rfl (fun ls hl => ?_)
                                                refine lv_aload_n hx hb dL_law_1248 rfl (lv_at hl 4 rfl) ?_
                                                obtain ⟨r319, e318, hf⟩ := bnd_ex hf
                                                refine k_i X hW (k_V (As := []) (rest := []) X hW hml hl.1 (c_X6_thrown l g hDW   m317 _ e318) (r_recv X hW 21 0 (by decide) (by decide) rfl rfl) ⟨mw_1005, kw_X6_thrown⟩ ⟨⟨rfl, rfl⟩, ko_X6_thrown, ⟨Nat.le_of_ble_eq_true rfl, Nat.le_of_ble_eq_true rfl⟩⟩ rfl rfl (Nat.le_of_ble_eq_true rfl) dL_law_1249 ⟨by show _ ≤ 601024; omega, by show _ ≤ 7293034; omega⟩) (fun H locs hW => ?_)
                                                refine lv_iload hx hb dL_law_1252 (lv_at hl 1 rfl) ?_
                                                refine lv_icmp_eq (tgt := 1259) hx hb dL_law_1254 (by decide) (fun c324 => ?_) (fun c324 => ?_)
                                                · replace hf := ite_t hf c324
                                                  refine lv_iload hx hb dL_law_1259 (lv_at hl 1 rfl) ?_
                                                  refine lv_if_ne (tgt := 1276) hx hb dL_law_1261 (by decide) (fun c323 => ?_) (fun c323 => ?_)
                                                  · replace hf := ite_f hf c323
                                                    exact P_1276 _ _ _ _ _ _ _ (by omega) (by omega) hW (lv_sub hl [2, 3, 4, 5, 6] rfl) hf
                                                  · replace hf := ite_t hf c323
                                                    refine lv_aload_n hx hb dL_law_1264 rfl (lv_at hl 5 rfl) ?_
                                                    refine lv_iconst (v := 0) hx hb dL_law_1265 (by decide) ?_
                                                    refine r_lald X hW vp01 dL_law_1266 ?_
                                                    refine lv_iload hx hb dL_law_1267 (lv_at hl 0 rfl) ?_
                                                    refine lv_i2l hx hb dL_law_1269 (v := r316.toInt64) rfl ?_
                                                    refine W.lcmp hx hb dL_law_1270 ?_
                                                    refine lv_if_eq (tgt := 1276) hx hb dL_law_1271 (by decide) (fun c322 => ?_) (fun c322 => ?_)
                                                    · replace hf := ite_t hf c322
                                                      exact P_1276 _ _ _ _ _ _ _ (by omega) (by omega) hW (lv_sub hl [2, 3, 4, 5, 6] rfl) hf
                                                    · replace hf := ite_f hf c322
                                                      refine lv_iconst (v := 0) hx hb dL_law_1274 (by decide) ?_
                                                      exact absurd (someinj hf) (by decide)
                                                · replace hf := ite_f hf c324
                                                  refine lv_iconst (v := 0) hx hb dL_law_1257 (by decide) ?_
                                                  exact absurd (someinj hf) (by decide)
                                              · replace hf := ite_f hf c325
                                                by_cases c343 : ((xs x4.toNatClampNeg) &&& 31) = 21
                                                · replace hf := ite_t hf c343
                                                  refine lv_tableIn (off := 1240) (tgt := 1279) hx hb dL_law_39 (by rw [c343]; decide) (by rw [c343]; decide) (by rw [c343]; rfl) (by decide) ?_
                                                  refine lv_aload_n hx hb dL_law_1279 rfl (lv_at hl 1 rfl) ?_
                                                  refine lv_aload_n hx hb dL_law_1280 rfl (lv_at hl 0 rfl) ?_
                                                  refine lv_iload hx hb dL_law_1281 (lv_at hl 4 rfl) ?_
                                                  refine lv_iconst (v := 1) hx hb dL_law_1283 (by decide) ?_
                                                  refine lv_iadd hx hb dL_law_1284 ?_
                                                  obtain ⟨b326, hf⟩ := chk_ex hf
                                                  refine va_sld hx hb hX hbl hbA hW.2 b326 dL_law_1285 ?_
                                                  refine lv_aload_n hx hb dL_law_1286 rfl (lv_at hl 0 rfl) ?_
                                                  refine lv_iload hx hb dL_law_1287 (lv_at hl 4 rfl) ?_
                                                  refine lv_iconst (v := 2) hx hb dL_law_1289 (by decide) ?_
                                                  refine lv_iadd hx hb dL_law_1290 ?_
                                                  obtain ⟨b327, hf⟩ := chk_ex hf
                                                  refine va_sld hx hb hX hbl hbA hW.2 b327 dL_law_1291 ?_
                                                  refine lv_aload_n hx hb dL_law_1292 rfl (lv_at hl 3 rfl) ?_
                                                  obtain ⟨r329, m330, e328, hf⟩ := bn2_ex hf
                                                  refine k_i X hW (k_SW (As := [.ref (ad g 12 0), .int (xs (x4 + 1).toNatClampNeg), .int (xs (x4 + 2).toNatClampNeg), .ref (ad g 34 0)]) (rest := []) X hW hml hl.1 (c_L_ifTimed l g hDW hst  _ _ mm _ _ e328) ⟨mw_916, kw_L_ifTimed⟩ ⟨⟨rfl, rfl⟩, ko_L_ifTimed, ⟨Nat.le_of_ble_eq_true rfl, Nat.le_of_ble_eq_true rfl⟩⟩ rfl rfl (Nat.le_of_ble_eq_true rfl) dL_law_1293 ⟨by show _ ≤ 601024; omega, by show _ ≤ 7293034; omega⟩) (fun H locs hW => ?_)
                                                  refine lv_istore (lv' := [(5, .int r329), (0, .ref b), (1, .ref (ad g 12 0)), (2, .ref (ad g 21 0)), (3, .ref (ad g 34 0)), (4, .int x4)]) hx hb dL_law_1296 hl (by decide) rfl (fun ls hl => ?_)
                                                  refine lv_aload_n hx hb dL_law_1298 rfl (lv_at hl 3 rfl) ?_
                                                  refine lv_aload_n hx hb dL_law_1299 rfl (lv_at hl 1 rfl) ?_
                                                  refine lv_iload hx hb dL_law_1300 (lv_at hl 5 rfl) ?_
                                                  refine lv_iconst (v := 1) hx hb dL_law_1302 (by decide) ?_
                                                  refine lv_iadd hx hb dL_law_1303 ?_
                                                  obtain ⟨b331, hf⟩ := chk_ex hf
                                                  refine va_sld hx hb hX hbl hbA hW.2 b331 dL_law_1304 ?_
                                                  refine lv_aload_n hx hb dL_law_1305 rfl (lv_at hl 1 rfl) ?_
                                                  refine lv_iload hx hb dL_law_1306 (lv_at hl 5 rfl) ?_
                                                  refine lv_iconst (v := 2) hx hb dL_law_1308 (by decide) ?_
                                                  refine lv_iadd hx hb dL_law_1309 ?_
                                                  obtain ⟨b332, hf⟩ := chk_ex hf
                                                  refine va_sld hx hb hX hbl hbA hW.2 b332 dL_law_1310 ?_
                                                  obtain ⟨r334, m335, e333, hf⟩ := bn2_ex hf
                                                  refine k_i X hW (k_V (As := [.int (xs (x4 + 1).toNatClampNeg), .int (xs (x4 + 2).toNatClampNeg)]) (rest := []) X hW hml hl.1 (c_X6_ifTimed l g hDW  _ _ m330 _ _ e333) (r_recv X hW 21 0 (by decide) (by decide) rfl rfl) ⟨mw_1255, kw_X6_ifTimed⟩ ⟨⟨rfl, rfl⟩, ko_X6_ifTimed, ⟨Nat.le_of_ble_eq_true rfl, Nat.le_of_ble_eq_true rfl⟩⟩ rfl rfl (Nat.le_of_ble_eq_true rfl) dL_law_1311 ⟨by show _ ≤ 601024; omega, by show _ ≤ 7293034; omega⟩) (fun H locs hW => ?_)
                                                  refine lv_istore (lv' := [(6, .int r334), (5, .int r329), (0, .ref b), (1, .ref (ad g 12 0)), (2, .ref (ad g 21 0)), (3, .ref (ad g 34 0)), (4, .int x4)]) hx hb dL_law_1314 hl (by decide) rfl (fun ls hl => ?_)
                                                  refine lv_aload_n hx hb dL_law_1316 rfl (lv_at hl 4 rfl) ?_
                                                  obtain ⟨r337, e336, hf⟩ := bnd_ex hf
                                                  refine k_i X hW (k_V (As := []) (rest := []) X hW hml hl.1 (c_X6_thrown l g hDW   m335 _ e336) (r_recv X hW 21 0 (by decide) (by decide) rfl rfl) ⟨mw_1005, kw_X6_thrown⟩ ⟨⟨rfl, rfl⟩, ko_X6_thrown, ⟨Nat.le_of_ble_eq_true rfl, Nat.le_of_ble_eq_true rfl⟩⟩ rfl rfl (Nat.le_of_ble_eq_true rfl) dL_law_1317 ⟨by show _ ≤ 601024; omega, by show _ ≤ 7293034; omega⟩) (fun H locs hW => ?_)
                                                  refine lv_iload hx hb dL_law_1320 (lv_at hl 1 rfl) ?_
                                                  refine lv_icmp_eq (tgt := 1327) hx hb dL_law_1322 (by decide) (fun c342 => ?_) (fun c342 => ?_)
                                                  · replace hf := ite_t hf c342
                                                    refine lv_iload hx hb dL_law_1327 (lv_at hl 1 rfl) ?_
                                                    refine lv_if_ne (tgt := 1344) hx hb dL_law_1329 (by decide) (fun c341 => ?_) (fun c341 => ?_)
                                                    · replace hf := ite_f hf c341
                                                      exact P_1344 _ _ _ _ _ _ _ (by omega) (by omega) hW (lv_sub hl [2, 3, 4, 5, 6] rfl) hf
                                                    · replace hf := ite_t hf c341
                                                      refine lv_aload_n hx hb dL_law_1332 rfl (lv_at hl 5 rfl) ?_
                                                      refine lv_iconst (v := 0) hx hb dL_law_1333 (by decide) ?_
                                                      refine r_lald X hW vp01 dL_law_1334 ?_
                                                      refine lv_iload hx hb dL_law_1335 (lv_at hl 0 rfl) ?_
                                                      refine lv_i2l hx hb dL_law_1337 (v := r334.toInt64) rfl ?_
                                                      refine W.lcmp hx hb dL_law_1338 ?_
                                                      refine lv_if_eq (tgt := 1344) hx hb dL_law_1339 (by decide) (fun c340 => ?_) (fun c340 => ?_)
                                                      · replace hf := ite_t hf c340
                                                        exact P_1344 _ _ _ _ _ _ _ (by omega) (by omega) hW (lv_sub hl [2, 3, 4, 5, 6] rfl) hf
                                                      · replace hf := ite_f hf c340
                                                        refine lv_iconst (v := 0) hx hb dL_law_1342 (by decide) ?_
                                                        exact absurd (someinj hf) (by decide)
                                                  · replace hf := ite_f hf c342
                                                    refine lv_iconst (v := 0) hx hb dL_law_1325 (by decide) ?_
                                                    exact absurd (someinj hf) (by decide)
                                                · replace hf := ite_f hf c343
                                                  by_cases c361 : ((xs x4.toNatClampNeg) &&& 31) = 22
                                                  · replace hf := ite_t hf c361
                                                    refine lv_tableIn (off := 1308) (tgt := 1347) hx hb dL_law_39 (by rw [c361]; decide) (by rw [c361]; decide) (by rw [c361]; rfl) (by decide) ?_
                                                    refine lv_aload_n hx hb dL_law_1347 rfl (lv_at hl 1 rfl) ?_
                                                    refine lv_aload_n hx hb dL_law_1348 rfl (lv_at hl 0 rfl) ?_
                                                    refine lv_iload hx hb dL_law_1349 (lv_at hl 4 rfl) ?_
                                                    refine lv_iconst (v := 1) hx hb dL_law_1351 (by decide) ?_
                                                    refine lv_iadd hx hb dL_law_1352 ?_
                                                    obtain ⟨b344, hf⟩ := chk_ex hf
                                                    refine va_sld hx hb hX hbl hbA hW.2 b344 dL_law_1353 ?_
                                                    refine lv_aload_n hx hb dL_law_1354 rfl (lv_at hl 0 rfl) ?_
                                                    refine lv_iload hx hb dL_law_1355 (lv_at hl 4 rfl) ?_
                                                    refine lv_iconst (v := 2) hx hb dL_law_1357 (by decide) ?_
                                                    refine lv_iadd hx hb dL_law_1358 ?_
                                                    obtain ⟨b345, hf⟩ := chk_ex hf
                                                    refine va_sld hx hb hX hbl hbA hW.2 b345 dL_law_1359 ?_
                                                    refine lv_aload_n hx hb dL_law_1360 rfl (lv_at hl 3 rfl) ?_
                                                    obtain ⟨r347, m348, e346, hf⟩ := bn2_ex hf
                                                    refine k_i X hW (k_SW (As := [.ref (ad g 12 0), .int (xs (x4 + 1).toNatClampNeg), .int (xs (x4 + 2).toNatClampNeg), .ref (ad g 34 0)]) (rest := []) X hW hml hl.1 (c_L_ifBalanced l g hDW hst  _ _ mm _ _ e346) ⟨mw_923, kw_L_ifBalanced⟩ ⟨⟨rfl, rfl⟩, ko_L_ifBalanced, ⟨Nat.le_of_ble_eq_true rfl, Nat.le_of_ble_eq_true rfl⟩⟩ rfl rfl (Nat.le_of_ble_eq_true rfl) dL_law_1361 ⟨by show _ ≤ 601024; omega, by show _ ≤ 7293034; omega⟩) (fun H locs hW => ?_)
                                                    refine lv_istore (lv' := [(5, .int r347), (0, .ref b), (1, .ref (ad g 12 0)), (2, .ref (ad g 21 0)), (3, .ref (ad g 34 0)), (4, .int x4)]) hx hb dL_law_1364 hl (by decide) rfl (fun ls hl => ?_)
                                                    refine lv_aload_n hx hb dL_law_1366 rfl (lv_at hl 3 rfl) ?_
                                                    refine lv_aload_n hx hb dL_law_1367 rfl (lv_at hl 1 rfl) ?_
                                                    refine lv_iload hx hb dL_law_1368 (lv_at hl 5 rfl) ?_
                                                    refine lv_iconst (v := 1) hx hb dL_law_1370 (by decide) ?_
                                                    refine lv_iadd hx hb dL_law_1371 ?_
                                                    obtain ⟨b349, hf⟩ := chk_ex hf
                                                    refine va_sld hx hb hX hbl hbA hW.2 b349 dL_law_1372 ?_
                                                    refine lv_aload_n hx hb dL_law_1373 rfl (lv_at hl 1 rfl) ?_
                                                    refine lv_iload hx hb dL_law_1374 (lv_at hl 5 rfl) ?_
                                                    refine lv_iconst (v := 2) hx hb dL_law_1376 (by decide) ?_
                                                    refine lv_iadd hx hb dL_law_1377 ?_
                                                    obtain ⟨b350, hf⟩ := chk_ex hf
                                                    refine va_sld hx hb hX hbl hbA hW.2 b350 dL_law_1378 ?_
                                                    obtain ⟨r352, m353, e351, hf⟩ := bn2_ex hf
                                                    refine k_i X hW (k_V (As := [.int (xs (x4 + 1).toNatClampNeg), .int (xs (x4 + 2).toNatClampNeg)]) (rest := []) X hW hml hl.1 (c_X6_ifBalanced l g hDW  _ _ m348 _ _ e351) (r_recv X hW 21 0 (by decide) (by decide) rfl rfl) ⟨mw_1263, kw_X6_ifBalanced⟩ ⟨⟨rfl, rfl⟩, ko_X6_ifBalanced, ⟨Nat.le_of_ble_eq_true rfl, Nat.le_of_ble_eq_true rfl⟩⟩ rfl rfl (Nat.le_of_ble_eq_true rfl) dL_law_1379 ⟨by show _ ≤ 601024; omega, by show _ ≤ 7293034; omega⟩) (fun H locs hW => ?_)
                                                    refine lv_istore (lv' := [(6, .int r352), (5, .int r347), (0, .ref b), (1, .ref (ad g 12 0)), (2, .ref (ad g 21 0)), (3, .ref (ad g 34 0)), (4, .int x4)]) hx hb dL_law_1382 hl (by decide) rfl (fun ls hl => ?_)
                                                    refine lv_aload_n hx hb dL_law_1384 rfl (lv_at hl 4 rfl) ?_
                                                    obtain ⟨r355, e354, hf⟩ := bnd_ex hf
                                                    refine k_i X hW (k_V (As := []) (rest := []) X hW hml hl.1 (c_X6_thrown l g hDW   m353 _ e354) (r_recv X hW 21 0 (by decide) (by decide) rfl rfl) ⟨mw_1005, kw_X6_thrown⟩ ⟨⟨rfl, rfl⟩, ko_X6_thrown, ⟨Nat.le_of_ble_eq_true rfl, Nat.le_of_ble_eq_true rfl⟩⟩ rfl rfl (Nat.le_of_ble_eq_true rfl) dL_law_1385 ⟨by show _ ≤ 601024; omega, by show _ ≤ 7293034; omega⟩) (fun H locs hW => ?_)
                                                    refine lv_iload hx hb dL_law_1388 (lv_at hl 1 rfl) ?_
                                                    refine lv_icmp_eq (tgt := 1395) hx hb dL_law_1390 (by decide) (fun c360 => ?_) (fun c360 => ?_)
                                                    · replace hf := ite_t hf c360
                                                      refine lv_iload hx hb dL_law_1395 (lv_at hl 1 rfl) ?_
                                                      refine lv_if_ne (tgt := 1412) hx hb dL_law_1397 (by decide) (fun c359 => ?_) (fun c359 => ?_)
                                                      · replace hf := ite_f hf c359
                                                        exact P_1412 _ _ _ _ _ _ _ (by omega) (by omega) hW (lv_sub hl [2, 3, 4, 5, 6] rfl) hf
                                                      · replace hf := ite_t hf c359
                                                        refine lv_aload_n hx hb dL_law_1400 rfl (lv_at hl 5 rfl) ?_
                                                        refine lv_iconst (v := 0) hx hb dL_law_1401 (by decide) ?_
                                                        refine r_lald X hW vp01 dL_law_1402 ?_
                                                        refine lv_iload hx hb dL_law_1403 (lv_at hl 0 rfl) ?_
                                                        refine lv_i2l hx hb dL_law_1405 (v := r352.toInt64) rfl ?_
                                                        refine W.lcmp hx hb dL_law_1406 ?_
                                                        refine lv_if_eq (tgt := 1412) hx hb dL_law_1407 (by decide) (fun c358 => ?_) (fun c358 => ?_)
                                                        · replace hf := ite_t hf c358
                                                          exact P_1412 _ _ _ _ _ _ _ (by omega) (by omega) hW (lv_sub hl [2, 3, 4, 5, 6] rfl) hf
                                                        · replace hf := ite_f hf c358
                                                          refine lv_iconst (v := 0) hx hb dL_law_1410 (by decide) ?_
                                                          exact absurd (someinj hf) (by decide)
                                                    · replace hf := ite_f hf c360
                                                      refine lv_iconst (v := 0) hx hb dL_law_1393 (by decide) ?_
                                                      exact absurd (someinj hf) (by decide)
                                                  · replace hf := ite_f hf c361
                                                    by_cases c377 : ((xs x4.toNatClampNeg) &&& 31) = 23
                                                    · replace hf := ite_t hf c377
                                                      refine lv_tableIn (off := 1376) (tgt := 1415) hx hb dL_law_39 (by rw [c377]; decide) (by rw [c377]; decide) (by rw [c377]; rfl) (by decide) ?_
                                                      refine lv_aload_n hx hb dL_law_1415 rfl (lv_at hl 1 rfl) ?_
                                                      refine lv_aload_n hx hb dL_law_1416 rfl (lv_at hl 0 rfl) ?_
                                                      refine lv_iload hx hb dL_law_1417 (lv_at hl 4 rfl) ?_
                                                      refine lv_iconst (v := 1) hx hb dL_law_1419 (by decide) ?_
                                                      refine lv_iadd hx hb dL_law_1420 ?_
                                                      obtain ⟨b362, hf⟩ := chk_ex hf
                                                      refine va_sld hx hb hX hbl hbA hW.2 b362 dL_law_1421 ?_
                                                      refine lv_aload_n hx hb dL_law_1422 rfl (lv_at hl 3 rfl) ?_
                                                      obtain ⟨r364, m365, e363, hf⟩ := bn2_ex hf
                                                      refine k_i X hW (k_SW (As := [.ref (ad g 12 0), .int (xs (x4 + 1).toNatClampNeg), .ref (ad g 34 0)]) (rest := []) X hW hml hl.1 (c_L_safest l g hDW hst  _ mm _ _ e363) ⟨mw_930, kw_L_safest⟩ ⟨⟨rfl, rfl⟩, ko_L_safest, ⟨Nat.le_of_ble_eq_true rfl, Nat.le_of_ble_eq_true rfl⟩⟩ rfl rfl (Nat.le_of_ble_eq_true rfl) dL_law_1423 ⟨by show _ ≤ 601024; omega, by show _ ≤ 7293034; omega⟩) (fun H locs hW => ?_)
                                                      refine lv_istore (lv' := [(5, .int r364), (0, .ref b), (1, .ref (ad g 12 0)), (2, .ref (ad g 21 0)), (3, .ref (ad g 34 0)), (4, .int x4)]) hx hb dL_law_1426 hl (by decide) rfl (fun ls hl => ?_)
                                                      refine lv_aload_n hx hb dL_law_1428 rfl (lv_at hl 3 rfl) ?_
                                                      refine lv_aload_n hx hb dL_law_1429 rfl (lv_at hl 1 rfl) ?_
                                                      refine lv_iload hx hb dL_law_1430 (lv_at hl 5 rfl) ?_
                                                      refine lv_iconst (v := 1) hx hb dL_law_1432 (by decide) ?_
                                                      refine lv_iadd hx hb dL_law_1433 ?_
                                                      obtain ⟨b366, hf⟩ := chk_ex hf
                                                      refine va_sld hx hb hX hbl hbA hW.2 b366 dL_law_1434 ?_
                                                      obtain ⟨r368, m369, e367, hf⟩ := bn2_ex hf
                                                      refine k_i X hW (k_V (As := [.int (xs (x4 + 1).toNatClampNeg)]) (rest := []) X hW hml hl.1 (c_X6_safest l g hDW  _ m365 _ _ e367) (r_recv X hW 21 0 (by decide) (by decide) rfl rfl) ⟨mw_1271, kw_X6_safest⟩ ⟨⟨rfl, rfl⟩, ko_X6_safest, ⟨Nat.le_of_ble_eq_true rfl, Nat.le_of_ble_eq_true rfl⟩⟩ rfl rfl (Nat.le_of_ble_eq_true rfl) dL_law_1435 ⟨by show _ ≤ 601024; omega, by show _ ≤ 7293034; omega⟩) (fun H locs hW => ?_)
                                                      refine lv_istore (lv' := [(6, .int r368), (5, .int r364), (0, .ref b), (1, .ref (ad g 12 0)), (2, .ref (ad g 21 0)), (3, .ref (ad g 34 0)), (4, .int x4)]) hx hb dL_law_1438 hl (by decide) rfl (fun ls hl => ?_)
                                                      refine lv_aload_n hx hb dL_law_1440 rfl (lv_at hl 4 rfl) ?_
                                                      obtain ⟨r371, e370, hf⟩ := bnd_ex hf
                                                      refine k_i X hW (k_V (As := []) (rest := []) X hW hml hl.1 (c_X6_thrown l g hDW   m369 _ e370) (r_recv X hW 21 0 (by decide) (by decide) rfl rfl) ⟨mw_1005, kw_X6_thrown⟩ ⟨⟨rfl, rfl⟩, ko_X6_thrown, ⟨Nat.le_of_ble_eq_true rfl, Nat.le_of_ble_eq_true rfl⟩⟩ rfl rfl (Nat.le_of_ble_eq_true rfl) dL_law_1441 ⟨by show _ ≤ 601024; omega, by show _ ≤ 7293034; omega⟩) (fun H locs hW => ?_)
                                                      refine lv_iload hx hb dL_law_1444 (lv_at hl 1 rfl) ?_
                                                      refine lv_icmp_eq (tgt := 1451) hx hb dL_law_1446 (by decide) (fun c376 => ?_) (fun c376 => ?_)
                                                      · replace hf := ite_t hf c376
                                                        refine lv_iload hx hb dL_law_1451 (lv_at hl 1 rfl) ?_
                                                        refine lv_if_ne (tgt := 1468) hx hb dL_law_1453 (by decide) (fun c375 => ?_) (fun c375 => ?_)
                                                        · replace hf := ite_f hf c375
                                                          exact P_1468 _ _ _ _ _ _ _ (by omega) (by omega) hW (lv_sub hl [2, 3, 4, 5, 6] rfl) hf
                                                        · replace hf := ite_t hf c375
                                                          refine lv_aload_n hx hb dL_law_1456 rfl (lv_at hl 5 rfl) ?_
                                                          refine lv_iconst (v := 0) hx hb dL_law_1457 (by decide) ?_
                                                          refine r_lald X hW vp01 dL_law_1458 ?_
                                                          refine lv_iload hx hb dL_law_1459 (lv_at hl 0 rfl) ?_
                                                          refine lv_i2l hx hb dL_law_1461 (v := r368.toInt64) rfl ?_
                                                          refine W.lcmp hx hb dL_law_1462 ?_
                                                          refine lv_if_eq (tgt := 1468) hx hb dL_law_1463 (by decide) (fun c374 => ?_) (fun c374 => ?_)
                                                          · replace hf := ite_t hf c374
                                                            exact P_1468 _ _ _ _ _ _ _ (by omega) (by omega) hW (lv_sub hl [2, 3, 4, 5, 6] rfl) hf
                                                          · replace hf := ite_f hf c374
                                                            refine lv_iconst (v := 0) hx hb dL_law_1466 (by decide) ?_
                                                            exact absurd (someinj hf) (by decide)
                                                      · replace hf := ite_f hf c376
                                                        refine lv_iconst (v := 0) hx hb dL_law_1449 (by decide) ?_
                                                        exact absurd (someinj hf) (by decide)
                                                    · replace hf := ite_f hf c377
                                                      by_cases c387 : ((xs x4.toNatClampNeg) &&& 31) = 24
                                                      · replace hf := ite_t hf c387
                                                        refine lv_tableIn (off := 1432) (tgt := 1471) hx hb dL_law_39 (by rw [c387]; decide) (by rw [c387]; decide) (by rw [c387]; rfl) (by decide) ?_
                                                        refine lv_aload_n hx hb dL_law_1471 rfl (lv_at hl 1 rfl) ?_
                                                        obtain ⟨r379, e378, hf⟩ := bnd_ex hf
                                                        refine k_d X hW (k_V (As := []) (rest := []) X hW hml hl.1 (c_X5_litShare l g hDW   mm _ e378) (r_recv X hW 12 0 (by decide) (by decide) rfl rfl) ⟨mw_492, kw_X5_litShare⟩ ⟨⟨rfl, rfl⟩, ko_X5_litShare, ⟨Nat.le_of_ble_eq_true rfl, Nat.le_of_ble_eq_true rfl⟩⟩ rfl rfl (Nat.le_of_ble_eq_true rfl) dL_law_1472 ⟨by show _ ≤ 601024; omega, by show _ ≤ 7293034; omega⟩) (fun H locs hW => ?_)
                                                        refine lv_dstore (lv' := [(5, .double r379), (0, .ref b), (1, .ref (ad g 12 0)), (2, .ref (ad g 21 0)), (3, .ref (ad g 34 0)), (4, .int x4)]) hx hb dL_law_1475 hl (by decide) rfl (fun ls hl => ?_)
                                                        refine lv_aload_n hx hb dL_law_1477 rfl (lv_at hl 3 rfl) ?_
                                                        obtain ⟨r382, m383, e381, hf⟩ := bn2_ex hf
                                                        refine k_d X hW (k_V (As := []) (rest := []) X hW hml hl.1 (c_X6_litShare l g hDW   mm _ _ e381) (r_recv X hW 21 0 (by decide) (by decide) rfl rfl) ⟨mw_1279, kw_X6_litShare⟩ ⟨⟨rfl, rfl⟩, ko_X6_litShare, ⟨Nat.le_of_ble_eq_true rfl, Nat.le_of_ble_eq_true rfl⟩⟩ rfl rfl (Nat.le_of_ble_eq_true rfl) dL_law_1478 ⟨by show _ ≤ 601024; omega, by show _ ≤ 7293034; omega⟩) (fun H locs hW => ?_)
                                                        refine lv_dstore (lv' := [(7, .double r382), (5, .double r379), (0, .ref b), (1, .ref (ad g 12 0)), (2, .ref (ad g 21 0)), (3, .ref (ad g 34 0)), (4, .int x4)]) hx hb dL_law_1481 hl (by decide) rfl (fun ls hl => ?_)
                                                        refine lv_dload hx hb dL_law_1483 (lv_at hl 1 rfl) ?_
                                                        refine lv_dload hx hb dL_law_1485 (lv_at hl 0 rfl) ?_
                                                        refine lv_dcmp hx hb dL_law_1487 ?_
                                                        refine lv_if_eq (tgt := 1509) hx hb dL_law_1488 (by decide) (fun c386 => ?_) (fun c386 => ?_)
                                                        · replace hf := ite_t hf c386
                                                          exact P_1509 _ _ _ _ _ _ _ (by omega) (by omega) hW (lv_sub hl [2, 3, 4, 5, 6] rfl) hf
                                                        · replace hf := ite_f hf c386
                                                          refine lv_dload hx hb dL_law_1491 (lv_at hl 1 rfl) ?_
                                                          refine lv_dload hx hb dL_law_1493 (lv_at hl 1 rfl) ?_
                                                          refine lv_dcmp hx hb dL_law_1495 ?_
                                                          refine lv_if_eq (tgt := 1507) hx hb dL_law_1496 (by decide) (fun c385 => ?_) (fun c385 => ?_)
                                                          · replace hf := ite_t hf c385
                                                            refine lv_iconst (v := 0) hx hb dL_law_1507 (by decide) ?_
                                                            exact absurd (someinj hf) (by decide)
                                                          · replace hf := ite_f hf c385
                                                            refine lv_dload hx hb dL_law_1499 (lv_at hl 0 rfl) ?_
                                                            refine lv_dload hx hb dL_law_1501 (lv_at hl 0 rfl) ?_
                                                            refine lv_dcmp hx hb dL_law_1503 ?_
                                                            refine lv_if_ne (tgt := 1509) hx hb dL_law_1504 (by decide) (fun c384 => ?_) (fun c384 => ?_)
                                                            · replace hf := ite_f hf c384
                                                              exact P_1509 _ _ _ _ _ _ _ (by omega) (by omega) hW (lv_sub hl [2, 3, 4, 5, 6] rfl) hf
                                                            · replace hf := ite_t hf c384
                                                              refine lv_iconst (v := 0) hx hb dL_law_1507 (by decide) ?_
                                                              exact absurd (someinj hf) (by decide)
                                                      · replace hf := ite_f hf c387
                                                        by_cases c399 : ((xs x4.toNatClampNeg) &&& 31) = 25
                                                        · replace hf := ite_t hf c399
                                                          refine lv_tableIn (off := 1473) (tgt := 1512) hx hb dL_law_39 (by rw [c399]; decide) (by rw [c399]; decide) (by rw [c399]; rfl) (by decide) ?_
                                                          refine lv_aload_n hx hb dL_law_1512 rfl (lv_at hl 1 rfl) ?_
                                                          obtain ⟨r389, m390, e388, hf⟩ := bn2_ex hf
                                                          refine k_f X hW (k_V (As := []) (rest := []) X hW hml hl.1 (c_X5_meanBrightness l g hDW   mm _ _ e388) (r_recv X hW 12 0 (by decide) (by decide) rfl rfl) ⟨mw_501, kw_X5_meanBrightness⟩ ⟨⟨rfl, rfl⟩, ko_X5_meanBrightness, ⟨Nat.le_of_ble_eq_true rfl, Nat.le_of_ble_eq_true rfl⟩⟩ rfl rfl (Nat.le_of_ble_eq_true rfl) dL_law_1513 ⟨by show _ ≤ 601024; omega, by show _ ≤ 7293034; omega⟩) (fun H locs hW => ?_)
                                                          obtain ⟨b391, hf⟩ := chk_ex hf
                                                          refine lv_f2d hx hb dL_law_1516 b391 ?_
                                                          refine lv_dstore (lv' := [(5, .double (FP.f2d r389)), (0, .ref b), (1, .ref (ad g 12 0)), (2, .ref (ad g 21 0)), (3, .ref (ad g 34 0)), (4, .int x4)]) hx hb dL_law_1517 hl (by decide) rfl (fun ls hl => ?_)
                                                          refine lv_aload_n hx hb dL_law_1519 rfl (lv_at hl 3 rfl) ?_
                                                          obtain ⟨r393, m394, e392, hf⟩ := bn2_ex hf
                                                          refine k_f X hW (k_V (As := []) (rest := []) X hW hml hl.1 (c_X6_meanBrightness l g hDW   m390 _ _ e392) (r_recv X hW 21 0 (by decide) (by decide) rfl rfl) ⟨mw_1287, kw_X6_meanBrightness⟩ ⟨⟨rfl, rfl⟩, ko_X6_meanBrightness, ⟨Nat.le_of_ble_eq_true rfl, Nat.le_of_ble_eq_true rfl⟩⟩ rfl rfl (Nat.le_of_ble_eq_true rfl) dL_law_1520 ⟨by show _ ≤ 601024; omega, by show _ ≤ 7293034; omega⟩) (fun H locs hW => ?_)
                                                          obtain ⟨b395, hf⟩ := chk_ex hf
                                                          refine lv_f2d hx hb dL_law_1523 b395 ?_
                                                          refine lv_dstore (lv' := [(7, .double (FP.f2d r393)), (5, .double (FP.f2d r389)), (0, .ref b), (1, .ref (ad g 12 0)), (2, .ref (ad g 21 0)), (3, .ref (ad g 34 0)), (4, .int x4)]) hx hb dL_law_1524 hl (by decide) rfl (fun ls hl => ?_)
                                                          refine lv_dload hx hb dL_law_1526 (lv_at hl 1 rfl) ?_
                                                          refine lv_dload hx hb dL_law_1528 (lv_at hl 0 rfl) ?_
                                                          refine lv_dcmp hx hb dL_law_1530 ?_
                                                          refine lv_if_eq (tgt := 1552) hx hb dL_law_1531 (by decide) (fun c398 => ?_) (fun c398 => ?_)
                                                          · replace hf := ite_t hf c398
                                                            exact P_1552 _ _ _ _ _ _ _ (by omega) (by omega) hW (lv_sub hl [2, 3, 4, 5, 6] rfl) hf
                                                          · replace hf := ite_f hf c398
                                                            refine lv_dload hx hb dL_law_1534 (lv_at hl 1 rfl) ?_
                                                            refine lv_dload hx hb dL_law_1536 (lv_at hl 1 rfl) ?_
                                                            refine lv_dcmp hx hb dL_law_1538 ?_
                                                            refine lv_if_eq (tgt := 1550) hx hb dL_law_1539 (by decide) (fun c397 => ?_) (fun c397 => ?_)
                                                            · replace hf := ite_t hf c397
                                                              refine lv_iconst (v := 0) hx hb dL_law_1550 (by decide) ?_
                                                              exact absurd (someinj hf) (by decide)
                                                            · replace hf := ite_f hf c397
                                                              refine lv_dload hx hb dL_law_1542 (lv_at hl 0 rfl) ?_
                                                              refine lv_dload hx hb dL_law_1544 (lv_at hl 0 rfl) ?_
                                                              refine lv_dcmp hx hb dL_law_1546 ?_
                                                              refine lv_if_ne (tgt := 1552) hx hb dL_law_1547 (by decide) (fun c396 => ?_) (fun c396 => ?_)
                                                              · replace hf := ite_f hf c396
                                                                exact P_1552 _ _ _ _ _ _ _ (by omega) (by omega) hW (lv_sub hl [2, 3, 4, 5, 6] rfl) hf
                                                              · replace hf := ite_t hf c396
                                                                refine lv_iconst (v := 0) hx hb dL_law_1550 (by decide) ?_
                                                                exact absurd (someinj hf) (by decide)
                                                        · replace hf := ite_f hf c399
                                                          by_cases c407 : ((xs x4.toNatClampNeg) &&& 31) = 26
                                                          · replace hf := ite_t hf c407
                                                            refine lv_tableIn (off := 1516) (tgt := 1555) hx hb dL_law_39 (by rw [c407]; decide) (by rw [c407]; decide) (by rw [c407]; rfl) (by decide) ?_
                                                            refine lv_aload_n hx hb dL_law_1555 rfl (lv_at hl 1 rfl) ?_
                                                            obtain ⟨r401, m402, e400, hf⟩ := bn2_ex hf
                                                            refine k_l X hW (k_V (As := []) (rest := []) X hW hml hl.1 (c_X5_digest l g hDW   mm _ _ e400) (r_recv X hW 12 0 (by decide) (by decide) rfl rfl) ⟨mw_513, kw_X5_digest⟩ ⟨⟨rfl, rfl⟩, ko_X5_digest, ⟨Nat.le_of_ble_eq_true rfl, Nat.le_of_ble_eq_true rfl⟩⟩ rfl rfl (Nat.le_of_ble_eq_true rfl) dL_law_1556 ⟨by show _ ≤ 601024; omega, by show _ ≤ 7293034; omega⟩) (fun H locs hW => ?_)
                                                            refine lv_aload_n hx hb dL_law_1559 rfl (lv_at hl 2 rfl) ?_
                                                            obtain ⟨r404, m405, e403, hf⟩ := bn2_ex hf
                                                            refine k_l X hW (k_V (As := []) (rest := [.long r401]) X hW hml hl.1 (c_X6_digest l g hDW   m402 _ _ e403) (r_recv X hW 21 0 (by decide) (by decide) rfl rfl) ⟨mw_1295, kw_X6_digest⟩ ⟨⟨rfl, rfl⟩, ko_X6_digest, ⟨Nat.le_of_ble_eq_true rfl, Nat.le_of_ble_eq_true rfl⟩⟩ rfl rfl (Nat.le_of_ble_eq_true rfl) dL_law_1560 ⟨by show _ ≤ 601024; omega, by show _ ≤ 7293034; omega⟩) (fun H locs hW => ?_)
                                                            refine W.lcmp hx hb dL_law_1563 ?_
                                                            refine lv_if_eq (tgt := 1569) hx hb dL_law_1564 (by decide) (fun c406 => ?_) (fun c406 => ?_)
                                                            · replace hf := ite_t hf c406
                                                              exact P_1569 _ _ _ _ _ _ _ (by omega) (by omega) hW (lv_sub hl [0, 1, 2, 3, 4] rfl) hf
                                                            · replace hf := ite_f hf c406
                                                              refine lv_iconst (v := 0) hx hb dL_law_1567 (by decide) ?_
                                                              exact absurd (someinj hf) (by decide)
                                                          · replace hf := ite_f hf c407
                                                            refine lv_tableOut (tgt := 1569) hx hb dL_law_39 (tb_out0_27 c19 c35 c53 c69 c87 c103 c121 c137 c153 c161 c169 c183 c191 c207 c223 c237 c255 c275 c291 c307 c325 c343 c361 c377 c387 c399 c407) (by decide) ?_
                                                            exact P_1569 _ _ _ _ _ _ _ (by omega) (by omega) hW (lv_sub hl [0, 1, 2, 3, 4] rfl) hf
