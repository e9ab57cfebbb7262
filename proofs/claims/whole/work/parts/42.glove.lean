/-! ===== gloves: what suits what, both sides ===== -/
theorem bz0 : am_bz (0 : Int32) = true := Eq.trans rfl rfl
theorem bz1 : am_bz (1 : Int32) = true := Eq.trans rfl rfl
theorem nz2 : am_nz (2 : Int32) = true := Eq.trans rfl rfl
theorem nz10 : am_nz (10 : Int32) = true := Eq.trans rfl rfl
theorem nz100 : am_nz (100 : Int32) = true := Eq.trans rfl rfl
def linedS (a b : Nat → Int32) : Bool := decide (a 2 = b 2) && (!decide (50 ≤ a 4) && !decide (50 ≤ b 4))
def looseS (a b : Nat → Int32) : Bool := iw (a 2 - b 2) (-1) 1
def suitS (a b : Nat → Int32) : Bool := if a 0 = 1 then linedS a b else if a 0 = 2 then looseS a b else if a 0 = 3 then linedS a b && !decide (b 3 < a 3 / 2) else if a 0 = 4 then looseS a b && !decide (b 0 = 4) else if a 0 = 5 then true else decide (a 2 = b 2)
def pairS (a b : Nat → Int32) : Bool := (!decide (a 1 = b 1) || decide (a 0 = 4) || decide (b 0 = 4)) && (decide (a 5 = 0) && (decide (b 5 = 0) && (suitS a b && suitS b a)))
/-- a glove's fields are in their ranges -/
def gmx (j : Nat) : Nat := match j with
  | 0 => 5 | 1 => 1 | 2 => 9 | 3 => 99 | 4 => 99 | _ => 1
def GV (a : Nat → Int32) : Prop := ∀ j, j < 6 → ∃ v, v ≤ gmx j ∧ a j = nI v
theorem q_lined {lp k k2 : Nat} {M : Nat → Nat → Int32} (hk : isG k) (hk2 : isG k2) : fxX1_suitsAsLined (some k) (some k2) (hp lp M) = some (bi (linedS (M k) (M k2)), hp lp M) := by
  simp only [fxX1_suitsAsLined, ob_g hk, ob_g hk2, am_gd_t, hp_gi, bz0, bz1, linedS, bi]
  by_cases h1 : M k 2 = M k2 2 <;> by_cases h2 : (50 : Int32) ≤ M k 4 <;> by_cases h3 : (50 : Int32) ≤ M k2 4 <;> simp [h1, h2, h3]
theorem sub_iw {i j : Nat} (hi : i ≤ 9) (hj : j ≤ 9) : iw (nI i - nI j) (-1) 1 = (!decide ((1 : Int32) < nI i - nI j) && !decide ((1 : Int32) < nI j - nI i)) := by
  have e1 := pk_sub_toInt (a := i) (b := j) (by omega) (by omega)
  have e2 := pk_sub_toInt (a := j) (b := i) (by omega) (by omega)
  simp only [iw, Int32.le_iff_toInt_le, Int32.lt_iff_toInt_lt, e1, e2, show (1 : Int32).toInt = 1 from rfl, show (-1 : Int32).toInt = -1 from rfl]
  by_cases a1 : (1 : Int) < (i : Int) - j <;> by_cases a2 : (1 : Int) < (j : Int) - i <;> simp [a1, a2] <;> omega
theorem q_loose {lp k k2 : Nat} {M : Nat → Nat → Int32} (hk : isG k) (hk2 : isG k2) (h1 : GV (M k)) (h2 : GV (M k2)) : fxX1_suitsAsLoose (some k) (some k2) (hp lp M) = some (bi (looseS (M k) (M k2)), hp lp M) := by
  obtain ⟨i, hi, e1⟩ := h1 2 (by decide)
  obtain ⟨j, hj, e2⟩ := h2 2 (by decide)
  have hl : looseS (M k) (M k2) = (!decide ((1 : Int32) < nI i - nI j) && !decide ((1 : Int32) < nI j - nI i)) := by
    unfold looseS
    rw [e1, e2, sub_iw hi hj]
  simp only [fxX1_suitsAsLoose, ob_g hk, ob_g hk2, am_gd_t, hp_gi, bz0, bz1, hl, bi, e1, e2]
  by_cases a1 : (1 : Int32) < nI i - nI j <;> by_cases a2 : (1 : Int32) < nI j - nI i <;> simp [a1, a2]
theorem q_suits {lp k k2 : Nat} {M : Nat → Nat → Int32} (hk : isG k) (hk2 : isG k2) (h1 : GV (M k)) (h2 : GV (M k2)) : fxX1_suits (some k) (some k2) (hp lp M) = some (bi (suitS (M k) (M k2)), hp lp M) := by
  simp only [fxX1_suits, ob_g hk, ob_g hk2, am_gd_t, hp_gi, q_lined hk hk2, q_loose hk hk2 h1 h2, am_bd_s, bi_bz, bi_0, bz0, bz1, nz2, suitS]
  by_cases b1 : M k2 3 < M k 3 / 2 <;> by_cases b2 : M k2 0 = 4 <;> by_cases b3 : M k 2 = M k2 2 <;> by_cases c1 : M k 0 = 1 <;> by_cases c2 : M k 0 = 2 <;> by_cases c3 : M k 0 = 3 <;> by_cases c4 : M k 0 = 4 <;> by_cases c5 : M k 0 = 5 <;> simp only [b1, b2, b3, c1, c2, c3, c4, c5, if_true, if_false, decide_true, decide_false, Bool.not_true, Bool.not_false, Bool.and_true, Bool.and_false] <;> first | rfl | (cases linedS (M k) (M k2) <;> rfl) | (cases looseS (M k) (M k2) <;> rfl)
theorem q_pairsWith {lp k k2 : Nat} {M : Nat → Nat → Int32} (hk : isG k) (hk2 : isG k2) (h1 : GV (M k)) (h2 : GV (M k2)) : fxX1_pairsWith (some k) (some k2) (hp lp M) = some (bi (pairS (M k) (M k2)), hp lp M) := by
  have hs1 := q_suits (lp := lp) hk hk2 h1 h2
  have hs2 := q_suits (lp := lp) hk2 hk h2 h1
  simp only [fxX1_pairsWith, fxX1_pairsWith_b27, fxX1_pairsWith_b32, ob_g hk, ob_g hk2, am_gd_t, am_lt, hp_gi, hs1, hs2, am_bd_s, bi_0, bz0, bz1, pairS]
  by_cases a1 : M k 1 = M k2 1 <;> by_cases a2 : M k 0 = 4 <;> by_cases a3 : M k2 0 = 4 <;> by_cases a4 : M k 5 = 0 <;> by_cases a5 : M k2 5 = 0 <;> cases suitS (M k) (M k2) <;> cases suitS (M k2) (M k) <;> simp [a1, a2, a3, a4, a5, bi]
/-- kinds under one another -/
def underS (kind one : Int32) : Bool := decide (one = 0) || (decide (kind = one) || ((decide (one = 1) && decide (kind = 3)) || (decide (one = 2) && decide (kind = 4))))
theorem q_isUnder (kind one : Int32) (h : am_H) : fxX10_isUnder kind one h = some (bi (underS kind one), h) := by
  simp only [fxX10_isUnder, fxX10_isUnder_b29, fxX10_isUnder_b19, bz0, bz1, am_gd_t, underS, bi]
  by_cases a1 : one = 0 <;> by_cases a2 : kind = one <;> by_cases a3 : one = 1 <;> by_cases a4 : kind = 3 <;> by_cases a5 : one = 2 <;> by_cases a6 : kind = 4 <;> simp_all

/-! the reference's gloves: now[16 + 6 g + what] -/
theorem nI16 (g j : Nat) : ((16 : Int32) + ((6 : Int32) * nI g)) + nI j = nI (16 + 6 * g + j) := by
  rw [show (16 : Int32) = nI 16 from rfl, show (6 : Int32) = nI 6 from rfl, pk_mul, nI_add, nI_add]
theorem q_of {lp g j : Nat} {M : Nat → Nat → Int32} (hg : g < 10) (hj : j < 6) (J : Int32) (eJ : J = nI j) : fxX10_of (some 121) (nI g) J (hp lp M) = some (M 122 (16 + 6 * g + j), hp lp M) := by
  subst eJ
  have h1 : am_ix (hp lp M) (some 122) 0 (nI (16 + 6 * g + j)) = true := by
    show (true && am_in (nI (16 + 6 * g + j)) 1448) = true
    rw [in_nI (by omega) (by omega)]; rfl
  simp only [fxX10_of, ob_M, am_gd_t, nI16, show am_gr (hp lp M) (some 121) 0 = some 122 from rfl, h1, hp_gi]
  rw [nI_clamp (by omega)]
/-- a glove of an array of the reference, by its fields -/
def mg (g : Nat → Int32) (i : Nat) : Nat → Int32 := fun j => g (16 + 6 * i + j)
theorem q_worthOf {lp g : Nat} {M : Nat → Nat → Int32} (hg : g < 10) : fxX10_worthOf (some 121) (nI g) (hp lp M) = some ((if mg (M 122) g 0 = 4 then 96 - mg (M 122) g 3 else worthS (mg (M 122) g)), hp lp M) := by
  simp only [fxX10_worthOf, ob_M, am_gd_t, q_of hg (show 3 < 6 by decide) (3 : Int32) rfl, q_of hg (show 0 < 6 by decide) (0 : Int32) rfl, am_bd_s, am_lt, worthS, mg]
  by_cases c1 : M 122 (16 + 6 * g + 0) = 1 <;> by_cases c2 : M 122 (16 + 6 * g + 0) = 2 <;> by_cases c3 : M 122 (16 + 6 * g + 0) = 3 <;> by_cases c4 : M 122 (16 + 6 * g + 0) = 4 <;> by_cases c5 : M 122 (16 + 6 * g + 0) = 5 <;> simp_all
theorem sub0 {x y : Int32} : (x - y = 0) = (x = y) := by
  apply propext
  constructor
  · intro h
    have := Int32.sub_add_cancel x y
    rw [h] at this
    simpa using this.symm
  · intro h
    rw [h]; simp
theorem q_doesFit {lp g k : Nat} {M : Nat → Nat → Int32} (hg : g < 10) (hk : k < 10) : fxX10_doesFit (some 121) (nI g) (nI k) (hp lp M) = some (bi (suitS (mg (M 122) g) (mg (M 122) k)), hp lp M) := by
  have o := fun (j : Nat) (h : j < 6) (J : Int32) (e : J = nI j) => q_of (lp := lp) (M := M) hg h J e
  have o2 := fun (j : Nat) (h : j < 6) (J : Int32) (e : J = nI j) => q_of (lp := lp) (M := M) hk h J e
  simp only [fxX10_doesFit, fxX10_doesFit_b23, fxX10_doesFit_b59, fxX10_doesFit_b60, ob_M, am_gd_t, am_lt, am_bd_s, q_in, bi_bz, bi_0, bz0, bz1, nz2, o 0 (by decide) (0 : Int32) rfl, o 2 (by decide) (2 : Int32) rfl, o 3 (by decide) (3 : Int32) rfl, o 4 (by decide) (4 : Int32) rfl, o2 0 (by decide) (0 : Int32) rfl, o2 2 (by decide) (2 : Int32) rfl, o2 3 (by decide) (3 : Int32) rfl, o2 4 (by decide) (4 : Int32) rfl]
  simp only [sub0, suitS, linedS, looseS, mg]
  by_cases e : M 122 (16 + 6 * g + 2) = M 122 (16 + 6 * k + 2) <;> by_cases b4 : (50 : Int32) ≤ M 122 (16 + 6 * g + 4) <;> by_cases b5 : (50 : Int32) ≤ M 122 (16 + 6 * k + 4) <;> simp only [e, b4, b5, if_true, if_false, decide_true, decide_false, Bool.not_true, Bool.not_false, Bool.and_true, Bool.and_false, Bool.false_and, Bool.true_and] <;> by_cases b1 : M 122 (16 + 6 * k + 3) < M 122 (16 + 6 * g + 3) / 2 <;> by_cases b2 : M 122 (16 + 6 * k + 0) = 4 <;> by_cases c1 : M 122 (16 + 6 * g + 0) = 1 <;> by_cases c2 : M 122 (16 + 6 * g + 0) = 2 <;> by_cases c3 : M 122 (16 + 6 * g + 0) = 3 <;> by_cases c4 : M 122 (16 + 6 * g + 0) = 4 <;> by_cases c5 : M 122 (16 + 6 * g + 0) = 5 <;> simp only [b1, b2, c1, c2, c3, c4, c5, if_true, if_false, decide_true, decide_false, Bool.not_true, Bool.not_false, Bool.and_true, Bool.and_false, Bool.false_and, Bool.true_and] <;> first | rfl | (cases iw (M 122 (16 + 6 * k + 2) - M 122 (16 + 6 * k + 2)) (-1) 1 <;> rfl) | (cases iw (M 122 (16 + 6 * g + 2) - M 122 (16 + 6 * k + 2)) (-1) 1 <;> rfl)
theorem q_isPair {lp g k : Nat} {M : Nat → Nat → Int32} (hg : g < 10) (hk : k < 10) : fxX10_isPair (some 121) (nI g) (nI k) (hp lp M) = some (bi (!decide (g = k) && pairS (mg (M 122) g) (mg (M 122) k)), hp lp M) := by
  have o := fun (j : Nat) (h : j < 6) (J : Int32) (e : J = nI j) => q_of (lp := lp) (M := M) hg h J e
  have o2 := fun (j : Nat) (h : j < 6) (J : Int32) (e : J = nI j) => q_of (lp := lp) (M := M) hk h J e
  have hgk : (nI g = nI k) = (g = k) := propext (nI_eq (by omega) (by omega))
  simp only [fxX10_isPair, fxX10_isPair_b35, fxX10_isPair_b40, ob_M, am_gd_t, am_lt, am_bd_s, bi_bz, bi_0, bz0, bz1, o 0 (by decide) (0 : Int32) rfl, o 1 (by decide) (1 : Int32) rfl, o 5 (by decide) (5 : Int32) rfl, o2 0 (by decide) (0 : Int32) rfl, o2 1 (by decide) (1 : Int32) rfl, o2 5 (by decide) (5 : Int32) rfl, q_doesFit hg hk, q_doesFit hk hg, hgk]
  simp only [pairS, mg]
  by_cases a0 : g = k <;> by_cases a1 : M 122 (16 + 6 * g + 1) = M 122 (16 + 6 * k + 1) <;> by_cases a2 : M 122 (16 + 6 * g + 0) = 4 <;> by_cases a3 : M 122 (16 + 6 * k + 0) = 4 <;> by_cases a4 : M 122 (16 + 6 * g + 5) = 0 <;> by_cases a5 : M 122 (16 + 6 * k + 5) = 0 <;> simp only [a0, a1, a2, a3, a4, a5, if_true, if_false, decide_true, decide_false, Bool.not_true, Bool.not_false, Bool.and_true, Bool.and_false, Bool.false_and, Bool.true_and, Bool.or_true, Bool.or_false, Bool.true_or, Bool.false_or] <;> first | rfl | (cases suitS (mg (M 122) g) (mg (M 122) k) <;> cases suitS (mg (M 122) k) (mg (M 122) g) <;> rfl)
