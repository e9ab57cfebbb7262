/-! ===== the abstract machine: values, heap, world ===== -/
/-- a value: an int; a reference into the world (or null); a constant object -/
abbrev am_V : Type := Int32 ⊕ (Option Nat ⊕ Nat)
/-- a cell's shape: an array (its type's number, its length), or an object (its class's number) -/
abbrev am_S : Type := (Nat × Nat) ⊕ Nat
/-- the heap: how many cells, their shapes, the ints in their slots, the references in their slots -/
abbrev am_H : Type := Nat × (Nat → am_S) × (Nat → Nat → Int32) × (Nat → Nat → Option Nat)
abbrev am_I (x : Int32) : am_V := .inl x
abbrev am_R (r : Option Nat) : am_V := .inr (.inl r)
abbrev am_K (c : Nat) : am_V := .inr (.inr c)
def am_tv (b : Nat) (kd : Nat → Option Nat) : am_V → Value
  | .inl x => .int x
  | .inr (.inl r) => va_rf (r.map (fun k => b + k))
  | .inr (.inr c) => va_rf (kd c)
theorem am_tv_cat (b : Nat) (kd : Nat → Option Nat) (v : am_V) : (am_tv b kd v).category = 1 := by
  rcases v with x | (_ | k) | c
  · rfl
  · rfl
  · rfl
  · show (va_rf (kd c)).category = 1
    cases kd c <;> rfl
def am_cl : List vw_C := [(RX0, TX0, 3), (RX1, TX1, 6), (RX2, TX2, 10), (RX3, TX3, 4), (RX4, TX4, 3), (RX5, TX5, 3), (RX6, TX6, 4), (RX7, TX7, 4), (RX8, TX8, 7), (RX9, TX9, 12), (RX10, TX10, 36)]
def am_tf (ci : Nat) : Nat → FieldType := match ci with
  | 0 => tyX0 | 1 => tyX1 | 2 => tyX2 | 3 => tyX3 | 4 => tyX4 | 5 => tyX5 | 6 => tyX6 | 7 => tyX7 | 8 => tyX8 | 9 => tyX9 | _ => tyX10
def am_nf (ci : Nat) : Nat := match ci with
  | 0 => 3 | 1 => 6 | 2 => 10 | 3 => 4 | 4 => 3 | 5 => 3 | 6 => 4 | 7 => 4 | 8 => 7 | 9 => 12 | _ => 36
def am_ir (ci j : Nat) : Bool := match am_tf ci j with
  | .object _ => true
  | .array _ => true
  | _ => false
def am_ty (cA : Nat → ClassId) : List (ClassId × FieldType) := [(cA 0, .int), (cA 1, .char), (cA 2, .boolean), (cA 3, .object RX1), (cA 4, .object RX3), (cA 5, .object RX5), (cA 6, .object RX6)]
def am_fs (b ci : Nat) (m : Nat → Int32) (p : Nat → Option Nat) : List Value := (List.range (am_nf ci)).map (fun j => if am_ir ci j then va_rf ((p j).map (fun k => b + k)) else .int (m j))
def am_ce (b : Nat) (cA : Nat → ClassId) (sh : am_S) (m : Nat → Int32) (p : Nat → Option Nat) : va_E := match sh with
  | .inl q => if q.1 < 3 then .inl (cA q.1, q.2, .inl m) else .inl (cA q.1, q.2, .inr (.inr (.inr (.inr (fun j => (p j).map (fun k => b + k))))))
  | .inr ci => .inr (ci, am_fs b ci m p)
def am_wl (b : Nat) (cA : Nat → ClassId) (h : am_H) : va_W := (List.range h.1).map (fun k => (b + k, am_ce b cA (h.2.1 k) (h.2.2.1 k) (h.2.2.2 k)))
def am_W (D : va_G) (cA : Nat → ClassId) (b : Nat) (h : am_H) (H : Heap) : Prop := va_P D am_cl (am_wl b cA h) H ∧ H.size = b + h.1
theorem am_wl_get {b : Nat} {cA : Nat → ClassId} {h : am_H} {k : Nat} (hk : k < h.1) : (am_wl b cA h)[k]? = some (b + k, am_ce b cA (h.2.1 k) (h.2.2.1 k) (h.2.2.2 k)) := by
  simp [am_wl, hk]
theorem am_wl_inv {b : Nat} {cA : Nat → ClassId} {h : am_H} {k : Nat} {q : Nat × va_E} (hk : (am_wl b cA h)[k]? = some q) : k < h.1 ∧ q = (b + k, am_ce b cA (h.2.1 k) (h.2.2.1 k) (h.2.2.2 k)) := by
  have h1 : k < (am_wl b cA h).length := (List.getElem?_eq_some_iff.mp hk).1
  have h2 : k < h.1 := by simpa [am_wl] using h1
  rw [am_wl_get h2] at hk
  exact ⟨h2, (Option.some.inj hk).symm⟩
theorem am_D (b : Nat) (cA : Nat → ClassId) (h : am_H) : va_D (fun q => b ≤ q) (am_wl b cA h) := by
  refine ⟨fun i j p q hi hj e => ?_, fun k q hk => ?_⟩
  · obtain ⟨-, rfl⟩ := am_wl_inv hi
    obtain ⟨-, rfl⟩ := am_wl_inv hj
    have e : b + i = b + j := e
    omega
  · obtain ⟨-, rfl⟩ := am_wl_inv hk
    exact Nat.le_add_right b k
/-- reading and writing -/
def am_gi (h : am_H) (r : Option Nat) (j : Nat) : Int32 := h.2.2.1 (r.getD 0) j
def am_gr (h : am_H) (r : Option Nat) (j : Nat) : Option Nat := h.2.2.2 (r.getD 0) j
def am_up {α : Type} (f : Nat → Nat → α) (k j : Nat) (v : α) : Nat → Nat → α := fun a c => if a = k then (if c = j then v else f a c) else f a c
def am_si (h : am_H) (r : Option Nat) (j : Nat) (v : Int32) : am_H := (h.1, h.2.1, am_up h.2.2.1 (r.getD 0) j v, h.2.2.2)
def am_sr (h : am_H) (r : Option Nat) (j : Nat) (v : Option Nat) : am_H := (h.1, h.2.1, h.2.2.1, am_up h.2.2.2 (r.getD 0) j v)
/-- guards: an object of the class; an array of the type and a place in it; an array of the type; 0 or 1; a char -/
def am_ob (h : am_H) (r : Option Nat) (ci : Nat) : Bool := match r with
  | none => false
  | some k => decide (k < h.1) && (match h.2.1 k with | .inl _ => false | .inr c => c == ci)
def am_ar (h : am_H) (r : Option Nat) (t : Nat) : Bool := match r with
  | none => false
  | some k => decide (k < h.1) && (match h.2.1 k with | .inl q => q.1 == t | .inr _ => false)
def am_ln (h : am_H) (r : Option Nat) : Nat := match h.2.1 (r.getD 0) with
  | .inl q => q.2
  | .inr _ => 0
def am_in (i : Int32) (n : Nat) : Bool := !decide (i < 0) && decide (i.toNatClampNeg < n)
def am_ix (h : am_H) (r : Option Nat) (t : Nat) (i : Int32) : Bool := am_ar h r t && am_in i (am_ln h r)
def am_bz (x : Int32) : Bool := x == 0 || x == 1
def am_cz (x : Int32) : Bool := !decide (x < 0) && decide (x.toNatClampNeg < 65536)
def am_nz (x : Int32) : Bool := !(x == 0)
theorem am_ob_spec {h : am_H} {r : Option Nat} {ci : Nat} (g : am_ob h r ci = true) : ∃ k, r = some k ∧ k < h.1 ∧ h.2.1 k = .inr ci := by
  cases r with
  | none => cases g
  | some k =>
    simp only [am_ob, Bool.and_eq_true, decide_eq_true_eq] at g
    obtain ⟨g1, g2⟩ := g
    refine ⟨k, rfl, g1, ?_⟩
    cases hs : h.2.1 k with
    | inl q => rw [hs] at g2; cases g2
    | inr c => rw [hs] at g2; rw [eq_of_beq g2]
theorem am_ar_spec {h : am_H} {r : Option Nat} {t : Nat} (g : am_ar h r t = true) : ∃ k n, r = some k ∧ k < h.1 ∧ h.2.1 k = .inl (t, n) ∧ am_ln h r = n := by
  cases r with
  | none => cases g
  | some k =>
    simp only [am_ar, Bool.and_eq_true, decide_eq_true_eq] at g
    obtain ⟨g1, g2⟩ := g
    cases hs : h.2.1 k with
    | inr c => rw [hs] at g2; cases g2
    | inl q =>
      rw [hs] at g2
      obtain ⟨q1, q2⟩ := q
      have e : q1 = t := eq_of_beq g2
      subst e
      exact ⟨k, q2, rfl, g1, hs, by simp [am_ln, hs]⟩
theorem am_in_spec {i : Int32} {n : Nat} (g : am_in i n = true) : vp_in i n := by
  simp only [am_in, Bool.and_eq_true, Bool.not_eq_true', decide_eq_false_iff_not, decide_eq_true_eq] at g
  rintro (q | q)
  · exact g.1 q
  · omega
theorem am_ix_spec {h : am_H} {r : Option Nat} {t : Nat} {i : Int32} (g : am_ix h r t i = true) : ∃ k n, r = some k ∧ k < h.1 ∧ h.2.1 k = .inl (t, n) ∧ vp_in i n := by
  simp only [am_ix, Bool.and_eq_true] at g
  obtain ⟨k, n, e1, e2, e3, e4⟩ := am_ar_spec g.1
  exact ⟨k, n, e1, e2, e3, by rw [← e4]; exact am_in_spec g.2⟩
/-- the world behind a write -/
theorem am_set {b : Nat} {cA : Nat → ClassId} {h h' : am_H} {k : Nat} {e : va_E} (hn : h'.1 = h.1) (ho : ∀ j, j ≠ k → h'.2.1 j = h.2.1 j ∧ h'.2.2.1 j = h.2.2.1 j ∧ h'.2.2.2 j = h.2.2.2 j) (hk : am_ce b cA (h'.2.1 k) (h'.2.2.1 k) (h'.2.2.2 k) = e) : (am_wl b cA h).set k (b + k, e) = am_wl b cA h' := by
  apply List.ext_getElem?
  intro i
  rw [List.getElem?_set]
  by_cases hi : k = i
  · subst hi
    rw [if_pos rfl]
    by_cases hl : k < h.1
    · rw [if_pos (by simpa [am_wl] using hl), am_wl_get (h := h') (by omega), hk]
    · rw [if_neg (by simpa [am_wl] using hl)]
      symm
      simp [am_wl, hn]
      omega
  · rw [if_neg hi]
    obtain ⟨o1, o2, o3⟩ := ho i (fun q => hi q.symm)
    by_cases hl : i < h.1
    · rw [am_wl_get hl, am_wl_get (h := h') (by omega), o1, o2, o3]
    · rw [List.getElem?_eq_none (by simp [am_wl]; omega), List.getElem?_eq_none (by simp [am_wl]; omega)]
theorem am_up_ne {α : Type} {f : Nat → Nat → α} {k j a : Nat} {v : α} (h : a ≠ k) : am_up f k j v a = f a := by
  funext c; simp [am_up, h]
theorem am_up_eq {α : Type} {f : Nat → Nat → α} {k j : Nat} {v : α} : am_up f k j v k = fun c => if c = j then v else f k c := by
  funext c; simp [am_up]
theorem am_fs_get {b ci : Nat} {m : Nat → Int32} {p : Nat → Option Nat} {j : Nat} (hj : j < am_nf ci) : (am_fs b ci m p)[j]? = some (if am_ir ci j then va_rf ((p j).map (fun k => b + k)) else .int (m j)) := by
  simp [am_fs, hj]
theorem am_fs_len {b ci : Nat} {m : Nat → Int32} {p : Nat → Option Nat} : (am_fs b ci m p).length = am_nf ci := by simp [am_fs]
theorem am_fs_set_i {b ci : Nat} {m : Nat → Int32} {p : Nat → Option Nat} {j : Nat} {x : Int32} (hr : am_ir ci j = false) : (am_fs b ci m p).set j (.int x) = am_fs b ci (fun c => if c = j then x else m c) p := by
  apply List.ext_getElem?
  intro i
  rw [List.getElem?_set]
  by_cases hl : i < am_nf ci
  · rw [am_fs_get hl, am_fs_get hl, am_fs_len]
    by_cases hi : j = i
    · subst hi
      simp [hl, hr]
    · simp [hi, Ne.symm hi]
  · rw [List.getElem?_eq_none (by rw [am_fs_len]; omega), List.getElem?_eq_none (by rw [am_fs_len]; omega), am_fs_len]
    by_cases hi : j = i
    · subst hi
      simp [hl]
    · simp [hi]
theorem am_fs_set_r {b ci : Nat} {m : Nat → Int32} {p : Nat → Option Nat} {j : Nat} {x : Option Nat} (hr : am_ir ci j = true) : (am_fs b ci m p).set j (va_rf (x.map (fun k => b + k))) = am_fs b ci m (fun c => if c = j then x else p c) := by
  apply List.ext_getElem?
  intro i
  rw [List.getElem?_set]
  by_cases hl : i < am_nf ci
  · rw [am_fs_get hl, am_fs_get hl, am_fs_len]
    by_cases hi : j = i
    · subst hi
      simp [hl, hr]
    · simp [hi, Ne.symm hi]
  · rw [List.getElem?_eq_none (by rw [am_fs_len]; omega), List.getElem?_eq_none (by rw [am_fs_len]; omega), am_fs_len]
    by_cases hi : j = i
    · subst hi
      simp [hl]
    · simp [hi]
