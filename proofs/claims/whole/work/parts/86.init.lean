/-! ===== behind the constructors ===== -/
def am_h0 : am_H := (0, fun _ => .inr 0, fun _ _ => 0, fun _ _ => none)
def ckH (h : am_H) : Bool := h.1 == 146 && (List.range 146).all (fun k => decide (h.2.1 k = hp_S k)) && (List.range 146).all (fun k => (List.range 36).all (fun j => decide (h.2.2.2 k j = hp_P 81 k j)))
def ckM (M : Mem) : Bool := (M 1 4 == M 122 0 && M 1 1 == 0 && M 122 1 == 0 && M 1 3 == 0 && M 122 2 == 0 && M 1 2 == 5 && M 122 3 == 5 && M 1 7 == 0 && M 122 4 == 0 && M 1 8 == 0 && M 122 5 == 0 && M 15 0 == -1 && M 15 1 == -1 && M 15 2 == -1 && M 0 3 == 0 && M 121 3 == 0 && M 79 1 == 0 && M 121 9 == 0 && M 0 11 == 0 && M 121 35 == 0) && (List.range 4).all (fun s => M (91 + 2 * s) 1 == 0 && M 138 s == 0 && M (91 + 2 * s) 0 == -1 && M 137 s == -1 && (List.range 24).all (fun k => M (92 + 2 * s) k == M 139 (24 * s + k))) && (List.range 5).all (fun s => M (100 + 4 * s) 0 == 0 && M 140 s == 0) && (List.range 12).all (fun k => M 130 k == keysL.getD k 0) && (List.range 4).all (fun k => M 131 k == nI (4 * k))
def ckX (M : Mem) : Bool := (List.range 120).all (fun j => (List.range 5).all (fun l => M 88 (5 * j + l) == nI (rgt j l)))
def ini2 (h2 : am_H) : Bool := match fxX10_init (some 121) (am_nw h2 (.inr 10)) with
  | none => false
  | some (_, h5) => ckH h5 && ckM h5.2.2.1 && ckX h5.2.2.1
def ini1 : Bool := match fxX9_init (some 0) (am_nw am_h0 (.inr 9)) with
  | none => false
  | some (_, h2) => h2.1 == 121 && ini2 h2
set_option maxRecDepth 1000000 in
theorem ini_t : ini1 = true := by decide +kernel
