/-! THE WORLD at the law's loop's first head -/
def mmI : gM := (fun c _ => match c with
  | 1 => upd (upd (upd (upd (upd (upd (fun _ => 0) 0 17) 1 17) 2 17) 3 17) 4 17) 5 17
  | 3 => upd (upd (upd (upd (upd (upd (fun _ => 0) 0 2) 1 2) 2 2) 3 2) 4 2) 5 2
  | 5 => upd (upd (upd (upd (fun _ => 0) 0 1) 1 840) 2 4) 3 10
  | 22 => upd (upd (upd (upd (upd (upd (upd (upd (upd (upd (upd (upd (upd (upd (upd (upd (fun _ => 0) 0 1) 1 840) 2 4) 3 10) 8 17) 10 2) 12 17) 14 2) 16 17) 18 2) 20 17) 22 2) 24 17) 26 2) 28 17) 30 2
  | _ => fun _ => 0, fun _ _ => 0)
