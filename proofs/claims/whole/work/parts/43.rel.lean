/-! ===== the relation between the class's cells and the reference's ===== -/
abbrev Mem : Type := Nat → Nat → Int32
def cn (x : Int32) : Nat := x.toNatClampNeg
/-- a code of a law: the class's sign against the reference's -/
def crel (c m : Int32) : Prop := (∃ v, v ≤ 9999 ∧ c = nI v ∧ m = nI v) ∨ (∃ i, i < 3 ∧ c = -1 - nI i ∧ m = 10000 + nI i) ∨ (c, m) ∈ ([(-33, -10), (-124, -1), (-38, -2), (-60, -3), (-61, -4), (-62, -5), (-43, -6), (-45, -7), (-42, -8), (-47, -9)] : List (Int32 × Int32))
/-- how deep the stack is behind the first k codes -/
def pdep (code : Nat → Int32) : Nat → Option Nat
  | 0 => some 0
  | k + 1 => match pdep code k with
    | none => none
    | some d => if 0 ≤ code k then some (d + 1) else if code k = -10 then (if 1 ≤ d then some d else none) else (if 2 ≤ d then some (d - 1) else none)
def WFc (K n : Nat) (code : Nat → Int32) : Prop := pdep code n = some 1 ∧ ∀ k, k < n → ∀ i, code k = 10000 + nI i → i < 3 → i < (if K = 0 then 3 else 2)
/-- text t of the array g, in the class's law t -/
def TR (M : Mem) (t : Nat) (g : Nat → Int32) : Prop := ∃ K n o, K < 3 ∧ n ≤ 96 ∧ o ≤ 96 ∧ g (76 + 2 * t) = nI (1000 * K + n) ∧ g (77 + 2 * t) = nI o ∧ M (48 + 2 * t) 0 = nI K ∧ M (48 + 2 * t) 1 = nI o ∧ M (48 + 2 * t) 3 = nI n ∧ (∀ k, k < n → crel (M (49 + 2 * t) k) (g (104 + 96 * t + k))) ∧ WFc K n (fun k => g (104 + 96 * t + k))
/-- the last of the first t texts that has the key -/
def lastK (g : Nat → Int32) (key : Int32) : Nat → Int32
  | 0 => -1
  | t + 1 => if g (76 + 2 * t) / 1000 = key then nI t else lastK g key t
/-- the guild at gb is what the array g says -/
def RCs (M : Mem) (gb : Nat) (g : Nat → Int32) : Prop := M gb 4 = g 0 ∧ M gb 1 = g 1 ∧ M gb 3 = g 2 ∧ M gb 2 = g 3 ∧ M gb 7 = g 4 ∧ M gb 8 = g 5
def RCg (M : Mem) (gb : Nat) (g : Nat → Int32) : Prop := ∀ i, i < cn (g 1) → ∀ j, j < 6 → M (gb + 2 + i) j = g (16 + 6 * i + j)
def RCw (M : Mem) (gb : Nat) (g : Nat → Int32) : Prop := ∀ i, i < cn (g 4) → ∃ a b, a ≤ 4 ∧ b ≤ 4 ∧ M (gb + 12) i = nI a ∧ M (gb + 13) i = nI b ∧ g (6 + i) = nI (10 * a + b)
def RCt (M : Mem) (gb : Nat) (g : Nat → Int32) : Prop := (∀ t, t < cn (g 5) → TR M t g) ∧ ∀ key, key < 3 → M (gb + 14) key = lastK g (nI key) (cn (g 5))
/-- the numbers of an array are in their ranges -/
def Vs (g : Nat → Int32) : Prop := (∃ n, n ≤ 10 ∧ g 1 = nI n) ∧ (∃ n, n ≤ 20000 ∧ g 2 = nI n) ∧ (∃ n, n ≤ 100 ∧ g 3 = nI n) ∧ (∃ n, n ≤ 10 ∧ g 4 = nI n) ∧ (∃ n, n ≤ 14 ∧ g 5 = nI n)
def Vg (g : Nat → Int32) : Prop := ∀ i, i < cn (g 1) → GV (mg g i)
def RC (M : Mem) (gb : Nat) (g : Nat → Int32) : Prop := RCs M gb g ∧ RCg M gb g ∧ RCw M gb g ∧ RCt M gb g ∧ Vs g ∧ Vg g
/-- the image -/
def RI (M : Mem) : Prop := M 0 3 = M 121 3 ∧ (M 121 3 = 0 ∨ (M 121 3 = 1 ∧ RC M 16 (M 123) ∧ cn (M 123 5) ≤ cn (M 122 5) ∧ cn (M 123 2) ≤ 9999))
/-- the tape; numbers that wait; sheets; slots -/
def RT (M : Mem) : Prop := ∃ n, n ≤ 96 ∧ M 79 1 = nI n ∧ M 121 9 = nI n ∧ ∀ i, i < n → ∃ v, v ≤ 255 ∧ M 80 i = nI v ∧ M 129 i = nI v
def RW (M : Mem) : Prop := ∃ n, n ≤ 60 ∧ M 0 11 = nI n ∧ M 121 35 = nI n ∧ ∀ i, i < n → M 120 i = M 145 i
def RS (M : Mem) : Prop := ∀ s, s < 4 → (∃ n, n ≤ 24 ∧ M (91 + 2 * s) 1 = nI n ∧ M 138 s = nI n ∧ (M 137 s = -1 → n = 0)) ∧ (M (91 + 2 * s) 0 = M 137 s ∧ (M 137 s = -1 ∨ M 137 s = 0 ∨ M 137 s = 1)) ∧ ∀ k, k < 24 → M (92 + 2 * s) k = M 139 (24 * s + k)
def RL1 (M : Mem) (s : Nat) : Prop := M (100 + 4 * s) 0 = M 140 s ∧ (M 140 s = 0 ∨ (M 140 s = 1 ∧ GV (M (101 + 4 * s)) ∧ M (101 + 4 * s) 0 = M 141 s ∧ worthS (M (101 + 4 * s)) = M 142 s) ∨ (M 140 s = 2 ∧ (∃ n, n ≤ 24 ∧ M (102 + 4 * s) 1 = nI n ∧ M 141 s = nI n) ∧ ∀ k, k < 24 → M (103 + 4 * s) k = M 143 (24 * s + k)) ∨ (M 140 s = 3 ∧ M (100 + 4 * s) 3 = M 141 s))
def RL (M : Mem) : Prop := ∀ s, s < 5 → RL1 M s
/-- what never changes: the joins, the reference's keys -/
def frW (used skip : Nat) : Nat := ((List.range 5).filter (fun r => !used.testBit r)).getD skip 0
def rgtGo : Nat → Nat → Nat → Nat → List Nat
  | 0, _, _, _ => []
  | f + 1, left, code, used => frW used (code % (5 - left)) :: rgtGo f (left + 1) (code / (5 - left)) (used ||| 2 ^ frW used (code % (5 - left)))
def rgt (join left : Nat) : Nat := (rgtGo 5 0 join 0).getD left 0
def keysL : List Int32 := [112, 97, 105, 114, 119, 101, 97, 114, 102, 105, 110, 101]
def RX (M : Mem) : Prop := (∀ k, k < 12 → M 130 k = keysL.getD k 0) ∧ (∀ k, k < 4 → M 131 k = nI (4 * k)) ∧ ∀ j, j < 120 → ∀ l, l < 5 → M 88 (5 * j + l) = nI (rgt j l)
def isLw (lp : Nat) : Prop := ∃ t, t < 15 ∧ lp = 48 + 2 * t
def Inv (lp : Nat) (M : Mem) : Prop := (RC M 1 (M 122) ∧ cn (M 122 2) ≤ 9999) ∧ RI M ∧ RT M ∧ RW M ∧ RS M ∧ RL M ∧ RX M ∧ (isLw lp ∨ lp = 81)
theorem cn_nI {n : Nat} (h : n < 2 ^ 31) : cn (nI n) = n := nI_clamp h
theorem Vs.n {g : Nat → Int32} (h : Vs g) : cn (g 1) ≤ 10 ∧ g 1 = nI (cn (g 1)) := by
  obtain ⟨⟨n, h1, h2⟩, -⟩ := h
  rw [h2, cn_nI (by omega)]
  exact ⟨h1, rfl⟩
theorem Vs.w {g : Nat → Int32} (h : Vs g) : cn (g 4) ≤ 10 ∧ g 4 = nI (cn (g 4)) := by
  obtain ⟨-, -, -, ⟨n, h1, h2⟩, -⟩ := h
  rw [h2, cn_nI (by omega)]
  exact ⟨h1, rfl⟩
theorem Vs.t {g : Nat → Int32} (h : Vs g) : cn (g 5) ≤ 14 ∧ g 5 = nI (cn (g 5)) := by
  obtain ⟨-, -, -, -, n, h1, h2⟩ := h
  rw [h2, cn_nI (by omega)]
  exact ⟨h1, rfl⟩
theorem suitS_congr {a a' b b' : Nat → Int32} (h1 : ∀ j, j < 6 → a j = a' j) (h2 : ∀ j, j < 6 → b j = b' j) : suitS a b = suitS a' b' := by
  simp only [suitS, linedS, looseS, h1 0 (by decide), h1 2 (by decide), h1 3 (by decide), h1 4 (by decide), h2 0 (by decide), h2 2 (by decide), h2 3 (by decide), h2 4 (by decide)]
theorem pairS_congr {a a' b b' : Nat → Int32} (h1 : ∀ j, j < 6 → a j = a' j) (h2 : ∀ j, j < 6 → b j = b' j) : pairS a b = pairS a' b' := by
  simp only [pairS, suitS_congr h1 h2, suitS_congr h2 h1, h1 0 (by decide), h1 1 (by decide), h1 5 (by decide), h2 0 (by decide), h2 1 (by decide), h2 5 (by decide)]
theorem worthS_congr {a a' : Nat → Int32} (h1 : ∀ j, j < 6 → a j = a' j) : worthS a = worthS a' := by
  simp only [worthS, h1 0 (by decide), h1 3 (by decide)]
theorem GV_congr {a a' : Nat → Int32} (h1 : ∀ j, j < 6 → a j = a' j) (h : GV a) : GV a' := fun j hj => by
  obtain ⟨v, h2, h3⟩ := h j hj
  exact ⟨v, h2, by rw [← h1 j hj]; exact h3⟩
/-- of a guild that is what g says: its gloves -/
theorem RC.gv {M : Mem} {gb : Nat} {g : Nat → Int32} (h : RC M gb g) {i : Nat} (hi : i < cn (g 1)) : GV (M (gb + 2 + i)) ∧ ∀ j, j < 6 → M (gb + 2 + i) j = mg g i j := by
  obtain ⟨-, h1, -, -, -, h2⟩ := h
  exact ⟨GV_congr (fun j hj => (h1 i hi j hj).symm) (h2 i hi), fun j hj => h1 i hi j hj⟩
theorem q_hasGlove {lp gb : Nat} {M : Mem} (hg : isGu gb) (x : Int32) : fxX2_hasGlove (some gb) x (hp lp M) = some (bi (iw x 0 (M gb 1 - 1)), hp lp M) := by
  simp only [fxX2_hasGlove, ob_gu hg, am_gd_t, hp_gi, q_within, am_bd_s, bi_bz]
theorem q_isGlove {lp : Nat} {M : Mem} (x : Int32) : fxX10_isGlove (some 121) x (hp lp M) = some (bi (iw x 0 (M 122 1 - 1)), hp lp M) := by
  have h1 : am_ix (hp lp M) (some 122) 0 (1 : Int32) = true := rfl
  simp only [fxX10_isGlove, ob_M, am_gd_t, show am_gr (hp lp M) (some 121) 0 = some 122 from rfl, h1, hp_gi, show (1 : Int32).toNatClampNeg = 1 from rfl, q_in, am_bd_s, bi_bz]
/-- two calls, one answer, the relation kept -/
def Pair (fx fm : am_H → Option (Int32 × am_H)) : Prop := ∀ lp M, Inv lp M → ∃ r lp1 M1 M2, fx (hp lp M) = some (r, hp lp1 M1) ∧ fm (hp lp1 M1) = some (r, hp lp1 M2) ∧ Inv lp1 M2
theorem Pair.same {fx fm : am_H → Option (Int32 × am_H)} (h : ∀ lp M, Inv lp M → ∃ r, fx (hp lp M) = some (r, hp lp M) ∧ fm (hp lp M) = some (r, hp lp M)) : Pair fx fm := fun lp M hI => by
  obtain ⟨r, h1, h2⟩ := h lp M hI
  exact ⟨r, lp, M, M, h1, h2, hI⟩
