/-! ===== the heap behind the constructors: shapes, pointers ===== -/
def hp_L : List am_S := [.inr 9, .inr 2, .inl (3, 10), .inr 1, .inr 1, .inr 1, .inr 1, .inr 1, .inr 1, .inr 1, .inr 1, .inr 1, .inr 1, .inl (0, 10), .inl (0, 10), .inl (0, 3), .inr 2, .inl (3, 10), .inr 1, .inr 1, .inr 1, .inr 1, .inr 1, .inr 1, .inr 1, .inr 1, .inr 1, .inr 1, .inl (0, 10), .inl (0, 10), .inl (0, 3), .inr 2, .inl (3, 10), .inr 1, .inr 1, .inr 1, .inr 1, .inr 1, .inr 1, .inr 1, .inr 1, .inr 1, .inr 1, .inl (0, 10), .inl (0, 10), .inl (0, 3), .inr 0, .inl (4, 14), .inr 3, .inl (0, 96), .inr 3, .inl (0, 96), .inr 3, .inl (0, 96), .inr 3, .inl (0, 96), .inr 3, .inl (0, 96), .inr 3, .inl (0, 96), .inr 3, .inl (0, 96), .inr 3, .inl (0, 96), .inr 3, .inl (0, 96), .inr 3, .inl (0, 96), .inr 3, .inl (0, 96), .inr 3, .inl (0, 96), .inr 3, .inl (0, 96), .inr 3, .inl (0, 96), .inr 3, .inl (0, 96), .inl (0, 96), .inr 8, .inl (0, 96), .inr 3, .inl (0, 96), .inr 7, .inl (0, 100), .inl (0, 1024), .inl (0, 10), .inr 4, .inl (0, 600), .inl (0, 25), .inl (5, 4), .inr 5, .inl (0, 24), .inr 5, .inl (0, 24), .inr 5, .inl (0, 24), .inr 5, .inl (0, 24), .inl (6, 5), .inr 6, .inr 1, .inr 5, .inl (0, 24), .inr 6, .inr 1, .inr 5, .inl (0, 24), .inr 6, .inr 1, .inr 5, .inl (0, 24), .inr 6, .inr 1, .inr 5, .inl (0, 24), .inr 6, .inr 1, .inr 5, .inl (0, 24), .inl (0, 60), .inr 10, .inl (0, 1448), .inl (0, 1448), .inl (0, 1448), .inl (0, 100), .inl (0, 1024), .inl (0, 76), .inl (0, 25), .inl (0, 96), .inl (1, 12), .inl (0, 4), .inl (0, 96), .inl (0, 96), .inl (2, 10), .inl (0, 96), .inl (0, 4), .inl (0, 4), .inl (0, 4), .inl (0, 96), .inl (0, 5), .inl (0, 5), .inl (0, 5), .inl (0, 120), .inl (0, 24), .inl (0, 60)]
def hp_S (k : Nat) : am_S := hp_L.getD k (.inr 0)
def hp_Q : List (List (Option Nat)) := [[some 1, some 16, some 31, none, some 46, some 79, some 83, some 87, some 90, some 99, some 120], [some 2, none, none, none, none, some 13, some 14, none, none, some 15], [some 3, some 4, some 5, some 6, some 7, some 8, some 9, some 10, some 11, some 12], [], [], [], [], [], [], [], [], [], [], [], [], [], [some 17, none, none, none, none, some 28, some 29, none, none, some 30], [some 18, some 19, some 20, some 21, some 22, some 23, some 24, some 25, some 26, some 27], [], [], [], [], [], [], [], [], [], [], [], [], [], [some 32, none, none, none, none, some 43, some 44, none, none, some 45], [some 33, some 34, some 35, some 36, some 37, some 38, some 39, some 40, some 41, some 42], [], [], [], [], [], [], [], [], [], [], [], [], [], [some 47, some 76, some 78], [some 48, some 50, some 52, some 54, some 56, some 58, some 60, some 62, some 64, some 66, some 68, some 70, some 72, some 74], [none, none, some 49], [], [none, none, some 51], [], [none, none, some 53], [], [none, none, some 55], [], [none, none, some 57], [], [none, none, some 59], [], [none, none, some 61], [], [none, none, some 63], [], [none, none, some 65], [], [none, none, some 67], [], [none, none, some 69], [], [none, none, some 71], [], [none, none, some 73], [], [none, none, some 75], [], [none, none, some 77], [], [], [some 80], [], [none, none, some 82], [], [some 84, some 85, some 86], [], [], [], [some 88, some 89], [], [], [some 91, some 93, some 95, some 97], [none, none, some 92], [], [none, none, some 94], [], [none, none, some 96], [], [none, none, some 98], [], [some 100, some 104, some 108, some 112, some 116], [none, some 101, some 102], [], [none, none, some 103], [], [none, some 105, some 106], [], [none, none, some 107], [], [none, some 109, some 110], [], [none, none, some 111], [], [none, some 113, some 114], [], [none, none, some 115], [], [none, some 117, some 118], [], [none, none, some 119], [], [], [some 122, some 123, some 124, none, some 125, some 126, some 127, some 128, some 129, none, none, none, none, none, none, none, some 130, some 131, some 132, none, none, some 133, none, some 134, some 135, some 136, some 137, some 138, some 139, some 140, some 141, some 142, some 143, some 144, some 145], [], [], [], [], [], [], [], [], [], [], [], [], [], [], [], [], [], [], [], [], [], [], [], []]
def hp_P (lp k j : Nat) : Option Nat := if k = 79 then (if j = 0 then some 80 else if j = 2 then some lp else none) else (hp_Q.getD k []).getD j none
def hp (lp : Nat) (M : Nat → Nat → Int32) : am_H := (146, hp_S, M, hp_P lp)
theorem hp_gi (lp : Nat) (M : Nat → Nat → Int32) (k j : Nat) : am_gi (hp lp M) (some k) j = M k j := Eq.trans rfl rfl
theorem hp_gr (lp : Nat) (M : Nat → Nat → Int32) (k j : Nat) : am_gr (hp lp M) (some k) j = hp_P lp k j := Eq.trans rfl rfl
theorem hp_si (lp : Nat) (M : Nat → Nat → Int32) (k j : Nat) (v : Int32) : am_si (hp lp M) (some k) j v = hp lp (am_up M k j v) := Eq.trans rfl rfl
theorem hp_sr (lp q : Nat) (M : Nat → Nat → Int32) : am_sr (hp lp M) (some 79) 2 (some q) = hp q M := by
  unfold am_sr hp
  congr 3
  funext a c
  unfold am_up hp_P
  show (if a = 79 then if c = 2 then some q else _ else _) = _
  by_cases ha : a = 79
  · subst ha
    by_cases hc : c = 2
    · subst hc; rfl
    · simp [hc]
  · simp [ha]
/-- 0 or 1 -/
def bi (b : Bool) : Int32 := if b = true then 1 else 0
theorem bi_0 (b : Bool) : (bi b = 0) = (b = false) := by cases b <;> simp [bi]
theorem bi_bz (b : Bool) : am_bz (bi b) = true := by cases b <;> rfl
theorem am_gd_t {β : Type} (k : Option β) : am_gd true k = k := Eq.trans rfl rfl
theorem am_lt_e {γ β : Type} (v : γ) (k : γ → β) : am_lt v k = k v := Eq.trans rfl rfl
theorem am_bd_s {γ β : Type} (a : γ) (h : am_H) (k : γ → am_H → Option β) : am_bd (some (a, h)) k = k a h := Eq.trans rfl rfl
def iw (a b c : Int32) : Bool := decide (b ≤ a) && decide (a ≤ c)
theorem q_seed (lp : Nat) (M : Nat → Nat → Int32) (v : Int32) : fxX9_seed (some 0) v (hp lp M) = some (M 1 4, hp lp (am_up M 1 4 v)) := rfl
theorem q_mseed (lp : Nat) (M : Nat → Nat → Int32) (v : Int32) : fxX10_seed (some 121) v (hp lp M) = some (M 122 0, hp lp (am_up M 122 0 v)) := rfl
