/-! ===== check ===== -/
def ckS (tl : Nat → Int32) (many n : Nat) : Nat → Nat → (Nat → Int32) → Nat
  | 0, i, _ => 2 * i
  | k + 1, i, g => if 2 * i < many ∧ tl (2 * i) = lostS (dayG (-1) n 0 g) n then (if 2 * i + 1 < many ∧ tl (2 * i + 1) = wearS (dayG (-1) n 0 g) n then ckS tl many n k (i + 1) (dayG (-1) n 0 g) else 2 * i + 1) else 2 * i
theorem ck_le {tl : Nat → Int32} {many n : Nat} : ∀ k i (g : Nat → Int32), ckS tl many n k i g ≤ 2 * (i + k) := by
  intro k
  induction k with
  | zero => intro i g; exact Nat.le_refl _
  | succ k ih =>
    intro i g
    unfold ckS
    split
    · split
      · have := ih (i + 1) (dayG (-1) n 0 g); omega
      · omega
    · omega
theorem ck_many {tl : Nat → Int32} {many n : Nat} : ∀ k i (g : Nat → Int32), 2 * i ≤ many → ckS tl many n k i g = 2 * (i + k) → 2 * (i + k) ≤ many := by
  intro k
  induction k with
  | zero => intro i g h _; exact h
  | succ k ih =>
    intro i g h he
    unfold ckS at he
    split at he
    · split at he
      · next q => have := ih (i + 1) (dayG (-1) n 0 g) (by omega) (by omega); omega
      · omega
    · omega
theorem q_isTold {lp p many : Nat} {M : Mem} {x : Int32} (hm : many ≤ 60) (hp0 : p < 1000) : fxX9_isTold (some 0) (nI p) (nI many) x (hp lp M) = some (bi (decide (p < many) && decide (M 120 p = x)), hp lp M) := by
  by_cases h1 : p < many
  · have h60 : ((60 : Int32) ≤ nI p) = False := zle (n := 60) (by omega) (by decide)
    by_cases h2 : M 120 p = x
    · rw [decide_eq_true h1, decide_eq_true h2]
      simp (disch := omega) only [fxX9_isTold, am_gd_t, am_lt_e, am_bd_s, bi_0, bi_bz, bz0, bz1, nz2, nz10, nz100, hp_gi, hp_si, ↓reduceIte, if_true, if_false, Bool.true_eq_false, Bool.false_eq_true, eq_self, reduceCtorEq, zo0, zp0_0, zp0_1, zp0_2, zp0_4, zp0_5, zp0_6, zp0_7, zp0_8, zp0_9, zp0_10, zo1, zp1_0, zp1_5, zp1_6, zp1_9, zo16, zp16_0, zp16_5, zp16_6, zp16_9, zo31, zp31_0, zp31_5, zp31_6, zp31_9, zo46, zp46_0, zp46_1, zp46_2, zo79, zp79_0, zo83, zp83_0, zp83_1, zp83_2, zo87, zp87_0, zp87_1, zo121, zp121_0, zp121_1, zp121_2, zp121_4, zp121_5, zp121_6, zp121_7, zp121_8, zp121_16, zp121_17, zp121_18, zp121_21, zp121_23, zp121_24, zp121_25, zp121_26, zp121_27, zp121_28, zp121_29, zp121_30, zp121_31, zp121_32, zp121_33, zp121_34, zp79_2, zx2, zx13, zx14, zx15, zx17, zx28, zx29, zx30, zx32, zx43, zx44, zx45, zx47, zx78, zx80, zx84, zx85, zx86, zx88, zx89, zx90, zx99, zx120, zx122, zx123, zx124, zx125, zx126, zx127, zx128, zx129, zx130, zx131, zx132, zx133, zx134, zx135, zx136, zx137, zx138, zx139, zx140, zx141, zx142, zx143, zx144, zx145, zg2, zg17, zg32, zgo3, zgo18, zgo33, zl47, zlo, zlp, zlx, zs90, zso, zsp, zsx, zt99, zto, ztp1, ztp2, ztgo, ztso, ztsp, ztsx, zc0, zi0, zc1, zi1, zc2, zi2, zc3, zi3, zc4, zi4, zc5, zi5, zin, zcl, nI_1, Bool.and_self, Bool.true_and, Bool.and_true, zle, h60, h2]
      rfl
    · rw [decide_eq_true h1, decide_eq_false h2]
      simp (disch := omega) only [fxX9_isTold, am_gd_t, am_lt_e, am_bd_s, bi_0, bi_bz, bz0, bz1, nz2, nz10, nz100, hp_gi, hp_si, ↓reduceIte, if_true, if_false, Bool.true_eq_false, Bool.false_eq_true, eq_self, reduceCtorEq, zo0, zp0_0, zp0_1, zp0_2, zp0_4, zp0_5, zp0_6, zp0_7, zp0_8, zp0_9, zp0_10, zo1, zp1_0, zp1_5, zp1_6, zp1_9, zo16, zp16_0, zp16_5, zp16_6, zp16_9, zo31, zp31_0, zp31_5, zp31_6, zp31_9, zo46, zp46_0, zp46_1, zp46_2, zo79, zp79_0, zo83, zp83_0, zp83_1, zp83_2, zo87, zp87_0, zp87_1, zo121, zp121_0, zp121_1, zp121_2, zp121_4, zp121_5, zp121_6, zp121_7, zp121_8, zp121_16, zp121_17, zp121_18, zp121_21, zp121_23, zp121_24, zp121_25, zp121_26, zp121_27, zp121_28, zp121_29, zp121_30, zp121_31, zp121_32, zp121_33, zp121_34, zp79_2, zx2, zx13, zx14, zx15, zx17, zx28, zx29, zx30, zx32, zx43, zx44, zx45, zx47, zx78, zx80, zx84, zx85, zx86, zx88, zx89, zx90, zx99, zx120, zx122, zx123, zx124, zx125, zx126, zx127, zx128, zx129, zx130, zx131, zx132, zx133, zx134, zx135, zx136, zx137, zx138, zx139, zx140, zx141, zx142, zx143, zx144, zx145, zg2, zg17, zg32, zgo3, zgo18, zgo33, zl47, zlo, zlp, zlx, zs90, zso, zsp, zsx, zt99, zto, ztp1, ztp2, ztgo, ztso, ztsp, ztsx, zc0, zi0, zc1, zi1, zc2, zi2, zc3, zi3, zc4, zi4, zc5, zi5, zin, zcl, nI_1, Bool.and_self, Bool.true_and, Bool.and_true, zle, h60, h2]
      rfl
  · rw [decide_eq_false h1]
    simp (disch := omega) only [fxX9_isTold, am_gd_t, am_lt_e, am_bd_s, bi_0, bi_bz, bz0, bz1, nz2, nz10, nz100, hp_gi, hp_si, ↓reduceIte, if_true, if_false, Bool.true_eq_false, Bool.false_eq_true, eq_self, reduceCtorEq, zle']
    rfl
theorem two_i (i : Nat) : (2 : Int32) * nI i = nI (2 * i) := by
  rw [show (2 : Int32) = nI 2 from rfl, pk_mul]
theorem one_p (i : Nat) : (1 : Int32) + nI i = nI (1 + i) := by
  rw [show (1 : Int32) = nI 1 from rfl, nI_add]
theorem two_p (i : Nat) : (2 : Int32) + nI i = nI (2 + i) := by
  rw [show (2 : Int32) = nI 2 from rfl, nI_add]
theorem chk_c {lp many n D : Nat} {tl : Nat → Int32} (hmy : many ≤ 60) (hD : D ≤ 30) : ∀ k i fuel (M : Mem) (g : Nat → Int32), RC M 31 g → cn (g 1) = n → cn (g 2) + k ≤ 20000 → M 120 = tl → i + k = D → k < fuel → ∃ M', fxX9_check_b64 fuel (some 0) (nI many) (nI D) (nI i) (hp lp M) = some (nI (if ckS tl many n k i g < 2 * D then 1 + ckS tl many n k i g else if many ≤ 2 * D then 0 else 1 + 2 * D), hp lp M') ∧ ∀ z, ¬ (31 ≤ z ∧ z ≤ 45) → z ≠ 78 → M' z = M z := by
  intro k
  induction k with
  | zero =>
    intro i fuel M g hR hn hd etl hi hf
    obtain ⟨fuel, rfl⟩ : ∃ f, fuel = f + 1 := ⟨fuel - 1, by omega⟩
    obtain rfl : i = D := by omega
    refine ⟨M, ?_, fun _ _ _ => rfl⟩
    unfold ckS
    rw [if_neg (by omega)]
    by_cases h : many ≤ 2 * i
    · rw [if_pos h]
      simp (disch := omega) only [fxX9_check_b64, ↓reduceIte, if_true, if_false, Bool.true_eq_false, Bool.false_eq_true, eq_self, reduceCtorEq, zle', two_i]
      rfl
    · rw [if_neg h]
      simp (disch := omega) only [fxX9_check_b64, ↓reduceIte, if_true, if_false, Bool.true_eq_false, Bool.false_eq_true, eq_self, reduceCtorEq, zle', two_i, zle, one_p]
  | succ k ih =>
    intro i fuel M g hR hn hd etl hi hf
    obtain ⟨fuel, rfl⟩ : ∃ f, fuel = f + 1 := ⟨fuel - 1, by omega⟩
    obtain ⟨hn10, en⟩ := hR.2.2.2.2.1.n
    obtain ⟨m2, hm2, em2⟩ := hR.2.2.2.2.1.2.1
    obtain ⟨M1, p1, p2, p3⟩ := q_live (lp := lp) (home := -1) gu31 1 M g hR (by omega) (by omega)
    have p1 : fxX2_live (some 31) (1 : Int32) (-1) (some 46) (hp lp M) = some ((), hp lp M1) := p1
    have hg1 : liveG (-1) 1 g = dayG (-1) n 0 g := by rw [← hn]; rfl
    rw [hg1] at p2
    have e1 : dayG (-1) n 0 g 1 = g 1 := dayG_lo _ _ _ 1 (by decide) (by decide) (by decide) (by omega)
    have e2 : dayG (-1) n 0 g 2 = nI (m2 + 1) := by rw [dayG_2 _ _ _ (by omega), em2, nI_1]
    have hl := lost_c (lp := lp) gu31 p2
    have hw := wear_c (lp := lp) gu31 p2
    rw [e1, hn] at hl hw
    have etl1 : M1 120 = tl := by rw [p3 120 (by omega) (by decide)]; exact etl
    have t1 := q_isTold (lp := lp) (M := M1) (p := 2 * i) (x := lostS (dayG (-1) n 0 g) n) hmy (by omega)
    have t2 := q_isTold (lp := lp) (M := M1) (p := 2 * i + 1) (x := wearS (dayG (-1) n 0 g) n) hmy (by omega)
    rw [etl1] at t1 t2
    unfold ckS
    by_cases c1 : 2 * i < many ∧ tl (2 * i) = lostS (dayG (-1) n 0 g) n
    · rw [if_pos c1]
      rw [decide_eq_true c1.1, decide_eq_true c1.2] at t1
      by_cases c2 : 2 * i + 1 < many ∧ tl (2 * i + 1) = wearS (dayG (-1) n 0 g) n
      · rw [if_pos c2]
        rw [decide_eq_true c2.1, decide_eq_true c2.2] at t2
        obtain ⟨M', q1, q2⟩ := ih (i + 1) fuel M1 (dayG (-1) n 0 g) p2 (by rw [e1]; exact hn) (by rw [e2, cn_nI (by omega)]; rw [em2, cn_nI (by omega)] at hd; omega) etl1 (by omega) (by omega)
        refine ⟨M', ?_, fun z z1 z2 => by rw [q2 z z1 z2, p3 z (by omega) z2]⟩
        simp (disch := omega) only [fxX9_check_b64, am_gd_t, am_lt_e, am_bd_s, bi_0, bi_bz, bz0, bz1, nz2, nz10, nz100, hp_gi, hp_si, ↓reduceIte, if_true, if_false, Bool.true_eq_false, Bool.false_eq_true, eq_self, reduceCtorEq, zo0, zp0_0, zp0_1, zp0_2, zp0_4, zp0_5, zp0_6, zp0_7, zp0_8, zp0_9, zp0_10, zo1, zp1_0, zp1_5, zp1_6, zp1_9, zo16, zp16_0, zp16_5, zp16_6, zp16_9, zo31, zp31_0, zp31_5, zp31_6, zp31_9, zo46, zp46_0, zp46_1, zp46_2, zo79, zp79_0, zo83, zp83_0, zp83_1, zp83_2, zo87, zp87_0, zp87_1, zo121, zp121_0, zp121_1, zp121_2, zp121_4, zp121_5, zp121_6, zp121_7, zp121_8, zp121_16, zp121_17, zp121_18, zp121_21, zp121_23, zp121_24, zp121_25, zp121_26, zp121_27, zp121_28, zp121_29, zp121_30, zp121_31, zp121_32, zp121_33, zp121_34, zp79_2, zx2, zx13, zx14, zx15, zx17, zx28, zx29, zx30, zx32, zx43, zx44, zx45, zx47, zx78, zx80, zx84, zx85, zx86, zx88, zx89, zx90, zx99, zx120, zx122, zx123, zx124, zx125, zx126, zx127, zx128, zx129, zx130, zx131, zx132, zx133, zx134, zx135, zx136, zx137, zx138, zx139, zx140, zx141, zx142, zx143, zx144, zx145, zg2, zg17, zg32, zgo3, zgo18, zgo33, zl47, zlo, zlp, zlx, zs90, zso, zsp, zsx, zt99, zto, ztp1, ztp2, ztgo, ztso, ztsp, ztsx, zc0, zi0, zc1, zi1, zc2, zi2, zc3, zi3, zc4, zi4, zc5, zi5, zle, p1, hl, two_i, t1, hw, nI_1, t2, Bool.and_self]
        exact q1
      · rw [if_neg c2]
        have : (decide (2 * i + 1 < many) && decide (tl (2 * i + 1) = wearS (dayG (-1) n 0 g) n)) = false := by
          by_cases q : 2 * i + 1 < many
          · rw [decide_eq_false (show ¬ tl (2 * i + 1) = wearS (dayG (-1) n 0 g) n from fun q2 => c2 ⟨q, q2⟩)]; simp
          · rw [decide_eq_false q]; rfl
        rw [this] at t2
        refine ⟨M1, ?_, fun z z1 z2 => p3 z (by omega) z2⟩
        rw [if_pos (by omega)]
        simp (disch := omega) only [fxX9_check_b64, am_gd_t, am_lt_e, am_bd_s, bi_0, bi_bz, bz0, bz1, nz2, nz10, nz100, hp_gi, hp_si, ↓reduceIte, if_true, if_false, Bool.true_eq_false, Bool.false_eq_true, eq_self, reduceCtorEq, zo0, zp0_0, zp0_1, zp0_2, zp0_4, zp0_5, zp0_6, zp0_7, zp0_8, zp0_9, zp0_10, zo1, zp1_0, zp1_5, zp1_6, zp1_9, zo16, zp16_0, zp16_5, zp16_6, zp16_9, zo31, zp31_0, zp31_5, zp31_6, zp31_9, zo46, zp46_0, zp46_1, zp46_2, zo79, zp79_0, zo83, zp83_0, zp83_1, zp83_2, zo87, zp87_0, zp87_1, zo121, zp121_0, zp121_1, zp121_2, zp121_4, zp121_5, zp121_6, zp121_7, zp121_8, zp121_16, zp121_17, zp121_18, zp121_21, zp121_23, zp121_24, zp121_25, zp121_26, zp121_27, zp121_28, zp121_29, zp121_30, zp121_31, zp121_32, zp121_33, zp121_34, zp79_2, zx2, zx13, zx14, zx15, zx17, zx28, zx29, zx30, zx32, zx43, zx44, zx45, zx47, zx78, zx80, zx84, zx85, zx86, zx88, zx89, zx90, zx99, zx120, zx122, zx123, zx124, zx125, zx126, zx127, zx128, zx129, zx130, zx131, zx132, zx133, zx134, zx135, zx136, zx137, zx138, zx139, zx140, zx141, zx142, zx143, zx144, zx145, zg2, zg17, zg32, zgo3, zgo18, zgo33, zl47, zlo, zlp, zlx, zs90, zso, zsp, zsx, zt99, zto, ztp1, ztp2, ztgo, ztso, ztsp, ztsx, zc0, zi0, zc1, zi1, zc2, zi2, zc3, zi3, zc4, zi4, zc5, zi5, zle, p1, hl, two_i, t1, hw, nI_1, t2, Bool.and_self, two_p]
        congr 3
        omega
    · rw [if_neg c1]
      have : (decide (2 * i < many) && decide (tl (2 * i) = lostS (dayG (-1) n 0 g) n)) = false := by
        by_cases q : 2 * i < many
        · rw [decide_eq_false (show ¬ tl (2 * i) = lostS (dayG (-1) n 0 g) n from fun q2 => c1 ⟨q, q2⟩)]; simp
        · rw [decide_eq_false q]; rfl
      rw [this] at t1
      refine ⟨M1, ?_, fun z z1 z2 => p3 z (by omega) z2⟩
      rw [if_pos (by omega)]
      simp (disch := omega) only [fxX9_check_b64, am_gd_t, am_lt_e, am_bd_s, bi_0, bi_bz, bz0, bz1, nz2, nz10, nz100, hp_gi, hp_si, ↓reduceIte, if_true, if_false, Bool.true_eq_false, Bool.false_eq_true, eq_self, reduceCtorEq, zo0, zp0_0, zp0_1, zp0_2, zp0_4, zp0_5, zp0_6, zp0_7, zp0_8, zp0_9, zp0_10, zo1, zp1_0, zp1_5, zp1_6, zp1_9, zo16, zp16_0, zp16_5, zp16_6, zp16_9, zo31, zp31_0, zp31_5, zp31_6, zp31_9, zo46, zp46_0, zp46_1, zp46_2, zo79, zp79_0, zo83, zp83_0, zp83_1, zp83_2, zo87, zp87_0, zp87_1, zo121, zp121_0, zp121_1, zp121_2, zp121_4, zp121_5, zp121_6, zp121_7, zp121_8, zp121_16, zp121_17, zp121_18, zp121_21, zp121_23, zp121_24, zp121_25, zp121_26, zp121_27, zp121_28, zp121_29, zp121_30, zp121_31, zp121_32, zp121_33, zp121_34, zp79_2, zx2, zx13, zx14, zx15, zx17, zx28, zx29, zx30, zx32, zx43, zx44, zx45, zx47, zx78, zx80, zx84, zx85, zx86, zx88, zx89, zx90, zx99, zx120, zx122, zx123, zx124, zx125, zx126, zx127, zx128, zx129, zx130, zx131, zx132, zx133, zx134, zx135, zx136, zx137, zx138, zx139, zx140, zx141, zx142, zx143, zx144, zx145, zg2, zg17, zg32, zgo3, zgo18, zgo33, zl47, zlo, zlp, zlx, zs90, zso, zsp, zsx, zt99, zto, ztp1, ztp2, ztgo, ztso, ztsp, ztsx, zc0, zi0, zc1, zi1, zc2, zi2, zc3, zi3, zc4, zi4, zc5, zi5, zle, p1, hl, two_i, t1, one_p]
theorem q_day {lp : Nat} {M0 M : Mem} {home : Int32} (hm : MO M0 (M 122)) : ∃ r M', fxX10_day (some 121) home (hp lp M) = some (r, hp lp M') ∧ M' 122 = dayG home (cn (M 122 1)) 0 (M 122) ∧ ∀ w, w ≠ 122 → w ≠ 135 → w ≠ 136 → M' w = M w := by
  obtain ⟨hn, en⟩ := hm.1.n
  obtain ⟨M1, p1, p2, p3⟩ := day_m (lp := lp) (home := home) hn (cn (M 122 1)) 0 am_F 0 M hm en (by omega) (by unfold am_F; omega)
  refine ⟨0 + dayL home (cn (M 122 1)) 0 (M 122), M1, ?_, p2, p3⟩
  simp only [fxX10_day, am_gd_t, am_lt_e, am_bd_s, bi_0, bi_bz, bz0, bz1, nz2, nz10, nz100, hp_gi, hp_si]
  exact p1
theorem chk_m {lp many n D : Nat} {M0 : Mem} {tl : Nat → Int32} (hmy : many ≤ 60) (hD : D ≤ 30) : ∀ k i fuel (M : Mem) (g : Nat → Int32), MO M0 g → M 122 = g → cn (g 1) = n → cn (g 2) + k ≤ 20000 → (∀ j, j < many → M 145 j = tl j) → i + k = D → k + 1 < fuel → ∃ M', fxX10_check_b80 fuel (some 121) (nI many) (nI (2 * D)) (nI (2 * i)) (nI i) (hp lp M) = fxX10_check_b181 (some 121) (nI many) (nI (2 * D)) (nI (ckS tl many n k i g)) (hp lp M') ∧ (∀ z, 76 ≤ z → M' 122 z = g z) ∧ ∀ z, z ≠ 122 → z ≠ 135 → z ≠ 136 → M' z = M z := by
  intro k
  induction k with
  | zero =>
    intro i fuel M g hm eg hn hd etl hi hf
    obtain ⟨fuel, rfl⟩ : ∃ f, fuel = f + 1 := ⟨fuel - 1, by omega⟩
    obtain rfl : i = D := by omega
    refine ⟨M, ?_, fun z hz => by rw [eg], fun _ _ _ _ => rfl⟩
    simp (disch := omega) only [fxX10_check_b80, ↓reduceIte, if_true, if_false, Bool.true_eq_false, Bool.false_eq_true, eq_self, reduceCtorEq, zle', two_i, ckS]
  | succ k ih =>
    intro i fuel M g hm eg hn hd etl hi hf
    obtain ⟨fuel, rfl⟩ : ∃ f, fuel = f + 1 := ⟨fuel - 1, by omega⟩
    obtain ⟨hn10, en⟩ := hm.1.n
    obtain ⟨m2, hm2, em2⟩ := hm.1.2.1
    obtain ⟨r, M1, p1, p2, p3⟩ := q_day (lp := lp) (M0 := M0) (M := M) (home := -1) (by rw [eg]; exact hm)
    rw [eg, hn] at p2
    rw [em2, cn_nI (by omega)] at hd
    have hm1 : MO M0 (dayG (-1) n 0 g) := by
      have := MO_live (home := -1) (d := 1) hm em2 (by omega)
      rw [show liveG (-1) 1 g = dayG (-1) n 0 g by rw [← hn]; rfl] at this
      exact this
    have e1 : dayG (-1) n 0 g 1 = g 1 := dayG_lo _ _ _ 1 (by decide) (by decide) (by decide) (by omega)
    have e2 : dayG (-1) n 0 g 2 = nI (m2 + 1) := by rw [dayG_2 _ _ _ (by omega), em2, nI_1]
    have hhi : ∀ z, 76 ≤ z → dayG (-1) n 0 g z = g z := fun z hz => dayG_lo _ _ _ z (by omega) (by omega) (by omega) (by omega)
    have hl := lost_m (lp := lp) (M := M1) (by rw [p2]; exact hm1.1)
    have hw := wear_m (lp := lp) (M := M1) (by rw [p2]; exact hm1.1)
    rw [p2, e1, hn] at hl hw
    have etl1 : ∀ j, j < many → M1 145 j = tl j := fun j hj => by rw [p3 145 (by decide) (by decide) (by decide)]; exact etl j hj
    have fr : ∀ z, 76 ≤ z → M1 122 z = g z := fun z hz => by rw [p2]; exact hhi z hz
    -- where it stops
    have stop : ∀ x, x < 2 * (i + 1) → fxX10_check_b80 fuel (some 121) (nI many) (nI (2 * D)) (nI x) (nI (i + 1)) (hp lp M1) = fxX10_check_b181 (some 121) (nI many) (nI (2 * D)) (nI x) (hp lp M1) := by
      intro x hx
      obtain ⟨fuel, rfl⟩ : ∃ f, fuel = f + 1 := ⟨fuel - 1, by omega⟩
      by_cases h : 2 * D ≤ 2 * (i + 1)
      · simp (disch := omega) only [fxX10_check_b80, ↓reduceIte, if_true, if_false, Bool.true_eq_false, Bool.false_eq_true, eq_self, reduceCtorEq, zle', two_i]
      · have hne : (nI x = nI (2 * (i + 1))) = False := zne (by omega) (by omega) (by omega)
        simp (disch := omega) only [fxX10_check_b80, ↓reduceIte, if_true, if_false, Bool.true_eq_false, Bool.false_eq_true, eq_self, reduceCtorEq, zle, two_i, hne]
    have ne1 : (nI (2 * i) = nI (2 * i + 1)) = False := zne (by omega) (by omega) (by omega)
    unfold ckS
    by_cases c1 : 2 * i < many ∧ tl (2 * i) = lostS (dayG (-1) n 0 g) n
    · rw [if_pos c1]
      have et := etl1 (2 * i) c1.1
      rw [c1.2] at et
      by_cases c2 : 2 * i + 1 < many ∧ tl (2 * i + 1) = wearS (dayG (-1) n 0 g) n
      · rw [if_pos c2]
        have et2 := etl1 (2 * i + 1) c2.1
        rw [c2.2] at et2
        obtain ⟨M', q1, q2, q3⟩ := ih (i + 1) fuel M1 (dayG (-1) n 0 g) hm1 p2 (by rw [e1]; exact hn) (by rw [e2, cn_nI (by omega)]; omega) etl1 (by omega) (by omega)
        refine ⟨M', ?_, fun z hz => by rw [q2 z hz]; exact hhi z hz, fun z z1 z2 z3 => by rw [q3 z z1 z2 z3, p3 z z1 z2 z3]⟩
        rw [← q1]
        simp (disch := omega) only [fxX10_check_b80, fxX10_check_b131, fxX10_check_b172, am_gd_t, am_lt_e, am_bd_s, bi_0, bi_bz, bz0, bz1, nz2, nz10, nz100, hp_gi, hp_si, ↓reduceIte, if_true, if_false, Bool.true_eq_false, Bool.false_eq_true, eq_self, reduceCtorEq, zo0, zp0_0, zp0_1, zp0_2, zp0_4, zp0_5, zp0_6, zp0_7, zp0_8, zp0_9, zp0_10, zo1, zp1_0, zp1_5, zp1_6, zp1_9, zo16, zp16_0, zp16_5, zp16_6, zp16_9, zo31, zp31_0, zp31_5, zp31_6, zp31_9, zo46, zp46_0, zp46_1, zp46_2, zo79, zp79_0, zo83, zp83_0, zp83_1, zp83_2, zo87, zp87_0, zp87_1, zo121, zp121_0, zp121_1, zp121_2, zp121_4, zp121_5, zp121_6, zp121_7, zp121_8, zp121_16, zp121_17, zp121_18, zp121_21, zp121_23, zp121_24, zp121_25, zp121_26, zp121_27, zp121_28, zp121_29, zp121_30, zp121_31, zp121_32, zp121_33, zp121_34, zp79_2, zx2, zx13, zx14, zx15, zx17, zx28, zx29, zx30, zx32, zx43, zx44, zx45, zx47, zx78, zx80, zx84, zx85, zx86, zx88, zx89, zx90, zx99, zx120, zx122, zx123, zx124, zx125, zx126, zx127, zx128, zx129, zx130, zx131, zx132, zx133, zx134, zx135, zx136, zx137, zx138, zx139, zx140, zx141, zx142, zx143, zx144, zx145, zg2, zg17, zg32, zgo3, zgo18, zgo33, zl47, zlo, zlp, zlx, zs90, zso, zsp, zsx, zt99, zto, ztp1, ztp2, ztgo, ztso, ztsp, ztsx, zc0, zi0, zc1, zi1, zc2, zi2, zc3, zi3, zc4, zi4, zc5, zi5, zin, zcl, nI_1, Bool.and_self, Bool.true_and, Bool.and_true, zle, two_i, p1, hl, et, nI_1, hw, et2]
        rfl
      · rw [if_neg c2]
        refine ⟨M1, ?_, fr, p3⟩
        rw [← stop (2 * i + 1) (by omega)]
        by_cases q : 2 * i + 1 < many
        · have hne : (M1 145 (2 * i + 1) = wearS (dayG (-1) n 0 g) n) = False := eq_false (fun q2 => c2 ⟨q, by rw [← etl1 _ q]; exact q2⟩)
          simp (disch := omega) only [fxX10_check_b80, fxX10_check_b131, fxX10_check_b171, fxX10_check_b172, am_gd_t, am_lt_e, am_bd_s, bi_0, bi_bz, bz0, bz1, nz2, nz10, nz100, hp_gi, hp_si, ↓reduceIte, if_true, if_false, Bool.true_eq_false, Bool.false_eq_true, eq_self, reduceCtorEq, zo0, zp0_0, zp0_1, zp0_2, zp0_4, zp0_5, zp0_6, zp0_7, zp0_8, zp0_9, zp0_10, zo1, zp1_0, zp1_5, zp1_6, zp1_9, zo16, zp16_0, zp16_5, zp16_6, zp16_9, zo31, zp31_0, zp31_5, zp31_6, zp31_9, zo46, zp46_0, zp46_1, zp46_2, zo79, zp79_0, zo83, zp83_0, zp83_1, zp83_2, zo87, zp87_0, zp87_1, zo121, zp121_0, zp121_1, zp121_2, zp121_4, zp121_5, zp121_6, zp121_7, zp121_8, zp121_16, zp121_17, zp121_18, zp121_21, zp121_23, zp121_24, zp121_25, zp121_26, zp121_27, zp121_28, zp121_29, zp121_30, zp121_31, zp121_32, zp121_33, zp121_34, zp79_2, zx2, zx13, zx14, zx15, zx17, zx28, zx29, zx30, zx32, zx43, zx44, zx45, zx47, zx78, zx80, zx84, zx85, zx86, zx88, zx89, zx90, zx99, zx120, zx122, zx123, zx124, zx125, zx126, zx127, zx128, zx129, zx130, zx131, zx132, zx133, zx134, zx135, zx136, zx137, zx138, zx139, zx140, zx141, zx142, zx143, zx144, zx145, zg2, zg17, zg32, zgo3, zgo18, zgo33, zl47, zlo, zlp, zlx, zs90, zso, zsp, zsx, zt99, zto, ztp1, ztp2, ztgo, ztso, ztsp, ztsx, zc0, zi0, zc1, zi1, zc2, zi2, zc3, zi3, zc4, zi4, zc5, zi5, zin, zcl, nI_1, Bool.and_self, Bool.true_and, Bool.and_true, zle, two_i, p1, hl, et, nI_1, hw, hne, Int32.add_zero]
        · simp (disch := omega) only [fxX10_check_b80, fxX10_check_b131, fxX10_check_b171, fxX10_check_b172, am_gd_t, am_lt_e, am_bd_s, bi_0, bi_bz, bz0, bz1, nz2, nz10, nz100, hp_gi, hp_si, ↓reduceIte, if_true, if_false, Bool.true_eq_false, Bool.false_eq_true, eq_self, reduceCtorEq, zo0, zp0_0, zp0_1, zp0_2, zp0_4, zp0_5, zp0_6, zp0_7, zp0_8, zp0_9, zp0_10, zo1, zp1_0, zp1_5, zp1_6, zp1_9, zo16, zp16_0, zp16_5, zp16_6, zp16_9, zo31, zp31_0, zp31_5, zp31_6, zp31_9, zo46, zp46_0, zp46_1, zp46_2, zo79, zp79_0, zo83, zp83_0, zp83_1, zp83_2, zo87, zp87_0, zp87_1, zo121, zp121_0, zp121_1, zp121_2, zp121_4, zp121_5, zp121_6, zp121_7, zp121_8, zp121_16, zp121_17, zp121_18, zp121_21, zp121_23, zp121_24, zp121_25, zp121_26, zp121_27, zp121_28, zp121_29, zp121_30, zp121_31, zp121_32, zp121_33, zp121_34, zp79_2, zx2, zx13, zx14, zx15, zx17, zx28, zx29, zx30, zx32, zx43, zx44, zx45, zx47, zx78, zx80, zx84, zx85, zx86, zx88, zx89, zx90, zx99, zx120, zx122, zx123, zx124, zx125, zx126, zx127, zx128, zx129, zx130, zx131, zx132, zx133, zx134, zx135, zx136, zx137, zx138, zx139, zx140, zx141, zx142, zx143, zx144, zx145, zg2, zg17, zg32, zgo3, zgo18, zgo33, zl47, zlo, zlp, zlx, zs90, zso, zsp, zsx, zt99, zto, ztp1, ztp2, ztgo, ztso, ztsp, ztsx, zc0, zi0, zc1, zi1, zc2, zi2, zc3, zi3, zc4, zi4, zc5, zi5, zin, zcl, nI_1, Bool.and_self, Bool.true_and, Bool.and_true, zle, zle', two_i, p1, hl, et, nI_1, Int32.add_zero]
    · rw [if_neg c1]
      refine ⟨M1, ?_, fr, p3⟩
      rw [← stop (2 * i) (by omega)]
      by_cases q : 2 * i < many
      · have hne : (M1 145 (2 * i) = lostS (dayG (-1) n 0 g) n) = False := eq_false (fun q2 => c1 ⟨q, by rw [← etl1 _ q]; exact q2⟩)
        simp (disch := omega) only [fxX10_check_b80, fxX10_check_b130, fxX10_check_b131, fxX10_check_b171, fxX10_check_b172, am_gd_t, am_lt_e, am_bd_s, bi_0, bi_bz, bz0, bz1, nz2, nz10, nz100, hp_gi, hp_si, ↓reduceIte, if_true, if_false, Bool.true_eq_false, Bool.false_eq_true, eq_self, reduceCtorEq, zo0, zp0_0, zp0_1, zp0_2, zp0_4, zp0_5, zp0_6, zp0_7, zp0_8, zp0_9, zp0_10, zo1, zp1_0, zp1_5, zp1_6, zp1_9, zo16, zp16_0, zp16_5, zp16_6, zp16_9, zo31, zp31_0, zp31_5, zp31_6, zp31_9, zo46, zp46_0, zp46_1, zp46_2, zo79, zp79_0, zo83, zp83_0, zp83_1, zp83_2, zo87, zp87_0, zp87_1, zo121, zp121_0, zp121_1, zp121_2, zp121_4, zp121_5, zp121_6, zp121_7, zp121_8, zp121_16, zp121_17, zp121_18, zp121_21, zp121_23, zp121_24, zp121_25, zp121_26, zp121_27, zp121_28, zp121_29, zp121_30, zp121_31, zp121_32, zp121_33, zp121_34, zp79_2, zx2, zx13, zx14, zx15, zx17, zx28, zx29, zx30, zx32, zx43, zx44, zx45, zx47, zx78, zx80, zx84, zx85, zx86, zx88, zx89, zx90, zx99, zx120, zx122, zx123, zx124, zx125, zx126, zx127, zx128, zx129, zx130, zx131, zx132, zx133, zx134, zx135, zx136, zx137, zx138, zx139, zx140, zx141, zx142, zx143, zx144, zx145, zg2, zg17, zg32, zgo3, zgo18, zgo33, zl47, zlo, zlp, zlx, zs90, zso, zsp, zsx, zt99, zto, ztp1, ztp2, ztgo, ztso, ztsp, ztsx, zc0, zi0, zc1, zi1, zc2, zi2, zc3, zi3, zc4, zi4, zc5, zi5, zin, zcl, nI_1, Bool.and_self, Bool.true_and, Bool.and_true, zle, two_i, p1, hl, nI_1, hne, ne1, Int32.add_zero]
      · simp (disch := omega) only [fxX10_check_b80, fxX10_check_b130, fxX10_check_b131, fxX10_check_b171, fxX10_check_b172, am_gd_t, am_lt_e, am_bd_s, bi_0, bi_bz, bz0, bz1, nz2, nz10, nz100, hp_gi, hp_si, ↓reduceIte, if_true, if_false, Bool.true_eq_false, Bool.false_eq_true, eq_self, reduceCtorEq, zo0, zp0_0, zp0_1, zp0_2, zp0_4, zp0_5, zp0_6, zp0_7, zp0_8, zp0_9, zp0_10, zo1, zp1_0, zp1_5, zp1_6, zp1_9, zo16, zp16_0, zp16_5, zp16_6, zp16_9, zo31, zp31_0, zp31_5, zp31_6, zp31_9, zo46, zp46_0, zp46_1, zp46_2, zo79, zp79_0, zo83, zp83_0, zp83_1, zp83_2, zo87, zp87_0, zp87_1, zo121, zp121_0, zp121_1, zp121_2, zp121_4, zp121_5, zp121_6, zp121_7, zp121_8, zp121_16, zp121_17, zp121_18, zp121_21, zp121_23, zp121_24, zp121_25, zp121_26, zp121_27, zp121_28, zp121_29, zp121_30, zp121_31, zp121_32, zp121_33, zp121_34, zp79_2, zx2, zx13, zx14, zx15, zx17, zx28, zx29, zx30, zx32, zx43, zx44, zx45, zx47, zx78, zx80, zx84, zx85, zx86, zx88, zx89, zx90, zx99, zx120, zx122, zx123, zx124, zx125, zx126, zx127, zx128, zx129, zx130, zx131, zx132, zx133, zx134, zx135, zx136, zx137, zx138, zx139, zx140, zx141, zx142, zx143, zx144, zx145, zg2, zg17, zg32, zgo3, zgo18, zgo33, zl47, zlo, zlp, zlx, zs90, zso, zsp, zsx, zt99, zto, ztp1, ztp2, ztgo, ztso, ztsp, ztsx, zc0, zi0, zc1, zi1, zc2, zi2, zc3, zi3, zc4, zi4, zc5, zi5, zin, zcl, nI_1, Bool.and_self, Bool.true_and, Bool.and_true, zle, zle', two_i, p1, nI_1, ne1, Int32.add_zero]
theorem P_check (a : Int32) : Pair (fxX9_check (some 0) a) (fxX10_check (some 121) a) := by
  intro lp M hI
  obtain ⟨many, hmy, w1, w2, w3⟩ := hI.2.2.2.1
  generalize hMc : am_up M 0 11 0 = Mc
  generalize hMw : am_up Mc 121 35 0 = Mw
  have rc : ∀ z, z ≠ 0 → Mc z = M z := fun z hz => by rw [← hMc, am_up_ne hz]
  have rc0 : Mc 0 = up1 (M 0) 11 0 := by rw [← hMc, up_row]
  have rw0 : Mw 0 = up1 (M 0) 11 0 := by rw [← hMw, am_up_ne (by decide), rc0]
  have rw121 : Mw 121 = up1 (M 121) 35 0 := by rw [← hMw, up_row, rc 121 (by decide)]
  have rwz : ∀ z, z ≠ 0 → z ≠ 121 → Mw z = M z := fun z z1 z2 => by rw [← hMw, am_up_ne z2, rc z z1]
  have hIw : Inv lp Mw := hI.wait (fun k k1 k2 k3 k4 => rwz k k1 k3) (by rw [rw0, up1_ne (by decide)]) (by rw [rw121, up1_ne (by decide)]) (by rw [rw121, up1_ne (by decide)]) ⟨0, by omega, by rw [rw0, up1_eq]; rfl, by rw [rw121, up1_eq]; rfl, fun i hi => by omega⟩
  cases ha : iw a 1 30 with
  | false =>
    refine ⟨-1000000001, lp, Mc, Mw, ?_, ?_, hIw⟩
    · simp only [fxX9_check, am_gd_t, am_lt_e, am_bd_s, bi_0, bi_bz, bz0, bz1, nz2, nz10, nz100, hp_gi, hp_si, ↓reduceIte, if_true, if_false, Bool.true_eq_false, Bool.false_eq_true, eq_self, reduceCtorEq, zo0, zp0_0, zp0_1, zp0_2, zp0_4, zp0_5, zp0_6, zp0_7, zp0_8, zp0_9, zp0_10, zo1, zp1_0, zp1_5, zp1_6, zp1_9, zo16, zp16_0, zp16_5, zp16_6, zp16_9, zo31, zp31_0, zp31_5, zp31_6, zp31_9, zo46, zp46_0, zp46_1, zp46_2, zo79, zp79_0, zo83, zp83_0, zp83_1, zp83_2, zo87, zp87_0, zp87_1, zo121, zp121_0, zp121_1, zp121_2, zp121_4, zp121_5, zp121_6, zp121_7, zp121_8, zp121_16, zp121_17, zp121_18, zp121_21, zp121_23, zp121_24, zp121_25, zp121_26, zp121_27, zp121_28, zp121_29, zp121_30, zp121_31, zp121_32, zp121_33, zp121_34, zp79_2, zx2, zx13, zx14, zx15, zx17, zx28, zx29, zx30, zx32, zx43, zx44, zx45, zx47, zx78, zx80, zx84, zx85, zx86, zx88, zx89, zx90, zx99, zx120, zx122, zx123, zx124, zx125, zx126, zx127, zx128, zx129, zx130, zx131, zx132, zx133, zx134, zx135, zx136, zx137, zx138, zx139, zx140, zx141, zx142, zx143, zx144, zx145, zg2, zg17, zg32, zgo3, zgo18, zgo33, zl47, zlo, zlp, zlx, zs90, zso, zsp, zsx, zt99, zto, ztp1, ztp2, ztgo, ztso, ztsp, ztsx, zc0, zi0, zc1, zi1, zc2, zi2, zc3, zi3, zc4, zi4, zc5, zi5, hMc, q_within, ha]
    · simp only [fxX10_check, am_gd_t, am_lt_e, am_bd_s, bi_0, bi_bz, bz0, bz1, nz2, nz10, nz100, hp_gi, hp_si, ↓reduceIte, if_true, if_false, Bool.true_eq_false, Bool.false_eq_true, eq_self, reduceCtorEq, zo0, zp0_0, zp0_1, zp0_2, zp0_4, zp0_5, zp0_6, zp0_7, zp0_8, zp0_9, zp0_10, zo1, zp1_0, zp1_5, zp1_6, zp1_9, zo16, zp16_0, zp16_5, zp16_6, zp16_9, zo31, zp31_0, zp31_5, zp31_6, zp31_9, zo46, zp46_0, zp46_1, zp46_2, zo79, zp79_0, zo83, zp83_0, zp83_1, zp83_2, zo87, zp87_0, zp87_1, zo121, zp121_0, zp121_1, zp121_2, zp121_4, zp121_5, zp121_6, zp121_7, zp121_8, zp121_16, zp121_17, zp121_18, zp121_21, zp121_23, zp121_24, zp121_25, zp121_26, zp121_27, zp121_28, zp121_29, zp121_30, zp121_31, zp121_32, zp121_33, zp121_34, zp79_2, zx2, zx13, zx14, zx15, zx17, zx28, zx29, zx30, zx32, zx43, zx44, zx45, zx47, zx78, zx80, zx84, zx85, zx86, zx88, zx89, zx90, zx99, zx120, zx122, zx123, zx124, zx125, zx126, zx127, zx128, zx129, zx130, zx131, zx132, zx133, zx134, zx135, zx136, zx137, zx138, zx139, zx140, zx141, zx142, zx143, zx144, zx145, zg2, zg17, zg32, zgo3, zgo18, zgo33, zl47, zlo, zlp, zlx, zs90, zso, zsp, zsx, zt99, zto, ztp1, ztp2, ztgo, ztso, ztsp, ztsx, zc0, zi0, zc1, zi1, zc2, zi2, zc3, zi3, zc4, zi4, zc5, zi5, hMw, q_in, ha]
  | true =>
  obtain ⟨d, hd, rfl⟩ := iw_lit 30 (b := 30) rfl (by decide) (iw_low (by decide) ha)
  obtain ⟨h3, hor⟩ := hI.2.1
  have c03 : Mc 0 3 = M 121 3 := by rw [rc0, up1_ne (by decide)]; exact h3
  have w03 : Mw 121 3 = M 121 3 := by rw [rw121, up1_ne (by decide)]
  rcases hor with h0 | ⟨h1, hR, h5, hd9⟩
  · rw [h0] at c03 w03
    refine ⟨-1000000002, lp, Mc, Mw, ?_, ?_, hIw⟩
    · simp only [fxX9_check, am_gd_t, am_lt_e, am_bd_s, bi_0, bi_bz, bz0, bz1, nz2, nz10, nz100, hp_gi, hp_si, ↓reduceIte, if_true, if_false, Bool.true_eq_false, Bool.false_eq_true, eq_self, reduceCtorEq, zo0, zp0_0, zp0_1, zp0_2, zp0_4, zp0_5, zp0_6, zp0_7, zp0_8, zp0_9, zp0_10, zo1, zp1_0, zp1_5, zp1_6, zp1_9, zo16, zp16_0, zp16_5, zp16_6, zp16_9, zo31, zp31_0, zp31_5, zp31_6, zp31_9, zo46, zp46_0, zp46_1, zp46_2, zo79, zp79_0, zo83, zp83_0, zp83_1, zp83_2, zo87, zp87_0, zp87_1, zo121, zp121_0, zp121_1, zp121_2, zp121_4, zp121_5, zp121_6, zp121_7, zp121_8, zp121_16, zp121_17, zp121_18, zp121_21, zp121_23, zp121_24, zp121_25, zp121_26, zp121_27, zp121_28, zp121_29, zp121_30, zp121_31, zp121_32, zp121_33, zp121_34, zp79_2, zx2, zx13, zx14, zx15, zx17, zx28, zx29, zx30, zx32, zx43, zx44, zx45, zx47, zx78, zx80, zx84, zx85, zx86, zx88, zx89, zx90, zx99, zx120, zx122, zx123, zx124, zx125, zx126, zx127, zx128, zx129, zx130, zx131, zx132, zx133, zx134, zx135, zx136, zx137, zx138, zx139, zx140, zx141, zx142, zx143, zx144, zx145, zg2, zg17, zg32, zgo3, zgo18, zgo33, zl47, zlo, zlp, zlx, zs90, zso, zsp, zsx, zt99, zto, ztp1, ztp2, ztgo, ztso, ztsp, ztsx, zc0, zi0, zc1, zi1, zc2, zi2, zc3, zi3, zc4, zi4, zc5, zi5, hMc, q_within, ha, c03]
    · simp only [fxX10_check, am_gd_t, am_lt_e, am_bd_s, bi_0, bi_bz, bz0, bz1, nz2, nz10, nz100, hp_gi, hp_si, ↓reduceIte, if_true, if_false, Bool.true_eq_false, Bool.false_eq_true, eq_self, reduceCtorEq, zo0, zp0_0, zp0_1, zp0_2, zp0_4, zp0_5, zp0_6, zp0_7, zp0_8, zp0_9, zp0_10, zo1, zp1_0, zp1_5, zp1_6, zp1_9, zo16, zp16_0, zp16_5, zp16_6, zp16_9, zo31, zp31_0, zp31_5, zp31_6, zp31_9, zo46, zp46_0, zp46_1, zp46_2, zo79, zp79_0, zo83, zp83_0, zp83_1, zp83_2, zo87, zp87_0, zp87_1, zo121, zp121_0, zp121_1, zp121_2, zp121_4, zp121_5, zp121_6, zp121_7, zp121_8, zp121_16, zp121_17, zp121_18, zp121_21, zp121_23, zp121_24, zp121_25, zp121_26, zp121_27, zp121_28, zp121_29, zp121_30, zp121_31, zp121_32, zp121_33, zp121_34, zp79_2, zx2, zx13, zx14, zx15, zx17, zx28, zx29, zx30, zx32, zx43, zx44, zx45, zx47, zx78, zx80, zx84, zx85, zx86, zx88, zx89, zx90, zx99, zx120, zx122, zx123, zx124, zx125, zx126, zx127, zx128, zx129, zx130, zx131, zx132, zx133, zx134, zx135, zx136, zx137, zx138, zx139, zx140, zx141, zx142, zx143, zx144, zx145, zg2, zg17, zg32, zgo3, zgo18, zgo33, zl47, zlo, zlp, zlx, zs90, zso, zsp, zsx, zt99, zto, ztp1, ztp2, ztgo, ztso, ztsp, ztsx, zc0, zi0, zc1, zi1, zc2, zi2, zc3, zi3, zc4, zi4, zc5, zi5, hMw, q_in, ha, w03]
  rw [h1] at c03 w03
  have hRc : RC Mc 16 (M 123) := RC_congr (fun z z1 z2 => rc z (by omega)) (fun z z1 z2 => rc z (by omega)) hR
  obtain ⟨m, hm, em⟩ := hR.2.2.2.2.1.2.1
  have hm9 : m ≤ 9999 := by rw [em, cn_nI (by omega)] at hd9; exact hd9
  obtain ⟨hn, en⟩ := hR.2.2.2.2.1.n
  generalize hD : min d (9999 - m) = D
  obtain ⟨hmin, hcl⟩ := day_min (by omega) hm9 hD
  obtain ⟨M1, p1, p2, p3⟩ := q_take (lp := lp) gu31 gu16 (by decide) hRc
  -- the image's array, as the reference copies it over now
  generalize hg : (fun j => if j < 1448 then M 123 j else M 122 j) = g
  have eg : ∀ j, j < 1448 → g j = M 123 j := fun j hj => by rw [← hg]; show (if j < 1448 then _ else _) = _; rw [if_pos hj]
  have eg2 : ∀ j, ¬ j < 1448 → g j = M 122 j := fun j hj => by rw [← hg]; show (if j < 1448 then _ else _) = _; rw [if_neg hj]
  have hR1 : RC M1 31 g := RC_g eg p2
  have emg : g 2 = nI m := by rw [eg 2 (by decide)]; exact em
  obtain ⟨M2, q1, q2⟩ := chk_c (lp := lp) (tl := M 120) hmy (show D ≤ 30 by omega) D 0 am_F M1 g hR1 rfl (by rw [emg, cn_nI (by omega)]; omega) (by rw [p3 120 (by omega), rc 120 (by decide)]) (by omega) (by unfold am_F; omega)
  generalize hr : ckS (M 120) many (cn (g 1)) D 0 g = r at q1
  have hrle : r ≤ 2 * D := by rw [← hr]; have := ck_le (tl := M 120) (many := many) (n := cn (g 1)) D 0 g; omega
  have hrm : r = 2 * D → 2 * D ≤ many := fun q => by
    have := ck_many (tl := M 120) (many := many) (n := cn (g 1)) D 0 g (by omega) (by rw [hr]; omega)
    omega
  have r2 : ∀ z, ¬ (31 ≤ z ∧ z ≤ 45) → z ≠ 78 → M2 z = Mc z := fun z z1 z2 => by rw [q2 z z1 z2, p3 z (by omega)]
  generalize hN0 : am_up M2 121 35 0 = N0
  have n0 : ∀ z, ¬ (31 ≤ z ∧ z ≤ 45) → z ≠ 78 → N0 z = Mw z := fun z z1 z2 => by
    rw [← hN0, ← hMw]
    by_cases q : z = 121
    · subst q; rw [up_row, up_row, r2 121 (by omega) (by decide)]
    · rw [am_up_ne q, am_up_ne q, r2 z z1 z2]
  obtain ⟨N1, u1, u2, u3⟩ := q_copyAll (lp := lp) (a := 122) (b := 124) (fun _ _ => zx122) (fun _ _ => zx124) (by decide) N0
  obtain ⟨N2, v1, v2, v3⟩ := q_copyAll (lp := lp) (a := 123) (b := 122) (fun _ _ => zx123) (fun _ _ => zx122) (by decide) N1
  have e122 : N0 122 = M 122 := by rw [n0 122 (by omega) (by decide), rwz 122 (by decide) (by decide)]
  have e123 : N1 123 = M 123 := by rw [u2 123 (by decide), n0 123 (by omega) (by decide), rwz 123 (by decide) (by decide)]
  have n2g : N2 122 = g := by
    funext j
    rw [v3 j, e123, u2 122 (by decide), e122, ← hg]
  have hmo : MO M1 g := ⟨hR1.2.2.2.2.1, hR1.2.2.2.1.1⟩
  obtain ⟨N3, x1, x2, x3⟩ := chk_m (lp := lp) (M0 := M1) (tl := M 120) hmy (show D ≤ 30 by omega) D 0 am_F N2 g hmo n2g rfl (by rw [emg, cn_nI (by omega)]; omega) (fun j hj => by
    rw [v2 145 (by decide), u2 145 (by decide), n0 145 (by omega) (by decide), rwz 145 (by decide) (by decide)]
    exact (w3 j hj).symm) (by omega) (by unfold am_F; omega)
  rw [hr] at x1
  obtain ⟨N4, y1, y2, y3⟩ := q_copyAll (lp := lp) (a := 124) (b := 122) (fun _ _ => zx124) (fun _ _ => zx122) (by decide) N3
  have e4 : N4 122 = M 122 := by
    funext j
    rw [y3 j]
    by_cases q : j < 1448
    · rw [if_pos q, x3 124 (by decide) (by decide) (by decide), v2 124 (by decide), u3 j, if_pos q, e122]
    · rw [if_neg q, x2 j (by omega), eg2 j q]
  have er : ∀ z, ¬ (31 ≤ z ∧ z ≤ 45) → z ≠ 78 → z ≠ 122 → z ≠ 124 → z ≠ 135 → z ≠ 136 → N4 z = Mw z := fun z z1 z2 z3 z4 z5 z6 => by rw [y2 z z3, x3 z z3 z5 z6, v2 z z3, u2 z z4, n0 z z1 z2]
  have e121 : N4 121 = Mw 121 := er 121 (by omega) (by decide) (by decide) (by decide) (by decide) (by decide)
  refine ⟨nI (if r < 2 * D then 1 + r else if many ≤ 2 * D then 0 else 1 + 2 * D), lp, M2, N4, ?_, ?_, hIw.scr (fun k hk hk2 => ?_) (by rw [e121]) (by rw [e121]) (by rw [e121])⟩
  · have e16 : M1 16 3 = nI m := by rw [p3 16 (by omega), rc 16 (by decide)]; exact hR.1.2.2.1.trans em
    simp only [fxX9_check, am_gd_t, am_lt_e, am_bd_s, bi_0, bi_bz, bz0, bz1, nz2, nz10, nz100, hp_gi, hp_si, ↓reduceIte, if_true, if_false, Bool.true_eq_false, Bool.false_eq_true, eq_self, reduceCtorEq, zo0, zp0_0, zp0_1, zp0_2, zp0_4, zp0_5, zp0_6, zp0_7, zp0_8, zp0_9, zp0_10, zo1, zp1_0, zp1_5, zp1_6, zp1_9, zo16, zp16_0, zp16_5, zp16_6, zp16_9, zo31, zp31_0, zp31_5, zp31_6, zp31_9, zo46, zp46_0, zp46_1, zp46_2, zo79, zp79_0, zo83, zp83_0, zp83_1, zp83_2, zo87, zp87_0, zp87_1, zo121, zp121_0, zp121_1, zp121_2, zp121_4, zp121_5, zp121_6, zp121_7, zp121_8, zp121_16, zp121_17, zp121_18, zp121_21, zp121_23, zp121_24, zp121_25, zp121_26, zp121_27, zp121_28, zp121_29, zp121_30, zp121_31, zp121_32, zp121_33, zp121_34, zp79_2, zx2, zx13, zx14, zx15, zx17, zx28, zx29, zx30, zx32, zx43, zx44, zx45, zx47, zx78, zx80, zx84, zx85, zx86, zx88, zx89, zx90, zx99, zx120, zx122, zx123, zx124, zx125, zx126, zx127, zx128, zx129, zx130, zx131, zx132, zx133, zx134, zx135, zx136, zx137, zx138, zx139, zx140, zx141, zx142, zx143, zx144, zx145, zg2, zg17, zg32, zgo3, zgo18, zgo33, zl47, zlo, zlp, zlx, zs90, zso, zsp, zsx, zt99, zto, ztp1, ztp2, ztgo, ztso, ztsp, ztsx, zc0, zi0, zc1, zi1, zc2, zi2, zc3, zi3, zc4, zi4, zc5, zi5, hMc, q_within, ha, c03, one0, p1, e16, hmin, w1]
    exact q1
  · have e35 : M2 121 35 = nI many := by rw [r2 121 (by omega) (by decide), rc 121 (by decide)]; exact w2
    have e3 : N0 121 3 = 1 := by rw [n0 121 (by omega) (by decide)]; exact w03
    have e2 : N2 122 2 = nI m := by rw [n2g]; exact emg
    simp only [fxX10_check, am_gd_t, am_lt_e, am_bd_s, bi_0, bi_bz, bz0, bz1, nz2, nz10, nz100, hp_gi, hp_si, ↓reduceIte, if_true, if_false, Bool.true_eq_false, Bool.false_eq_true, eq_self, reduceCtorEq, zo0, zp0_0, zp0_1, zp0_2, zp0_4, zp0_5, zp0_6, zp0_7, zp0_8, zp0_9, zp0_10, zo1, zp1_0, zp1_5, zp1_6, zp1_9, zo16, zp16_0, zp16_5, zp16_6, zp16_9, zo31, zp31_0, zp31_5, zp31_6, zp31_9, zo46, zp46_0, zp46_1, zp46_2, zo79, zp79_0, zo83, zp83_0, zp83_1, zp83_2, zo87, zp87_0, zp87_1, zo121, zp121_0, zp121_1, zp121_2, zp121_4, zp121_5, zp121_6, zp121_7, zp121_8, zp121_16, zp121_17, zp121_18, zp121_21, zp121_23, zp121_24, zp121_25, zp121_26, zp121_27, zp121_28, zp121_29, zp121_30, zp121_31, zp121_32, zp121_33, zp121_34, zp79_2, zx2, zx13, zx14, zx15, zx17, zx28, zx29, zx30, zx32, zx43, zx44, zx45, zx47, zx78, zx80, zx84, zx85, zx86, zx88, zx89, zx90, zx99, zx120, zx122, zx123, zx124, zx125, zx126, zx127, zx128, zx129, zx130, zx131, zx132, zx133, zx134, zx135, zx136, zx137, zx138, zx139, zx140, zx141, zx142, zx143, zx144, zx145, zg2, zg17, zg32, zgo3, zgo18, zgo33, zl47, zlo, zlp, zlx, zs90, zso, zsp, zsx, zt99, zto, ztp1, ztp2, ztgo, ztso, ztsp, ztsx, zc0, zi0, zc1, zi1, zc2, zi2, zc3, zi3, zc4, zi4, zc5, zi5, hN0, e35, q_in, ha, e3, one0, u1, v1, e2, q_mwithin, hcl, two_i]
    refine Eq.trans x1 ?_
    by_cases c1 : r = 2 * D
    · have := hrm c1
      subst c1
      by_cases c2 : many ≤ 2 * D
      · obtain rfl : many = 2 * D := by omega
        rw [if_neg (by omega), if_pos c2]
        simp only [fxX10_check_b181, am_gd_t, am_lt_e, am_bd_s, bi_0, bi_bz, bz0, bz1, nz2, nz10, nz100, hp_gi, hp_si, ↓reduceIte, if_true, if_false, Bool.true_eq_false, Bool.false_eq_true, eq_self, reduceCtorEq, zo0, zp0_0, zp0_1, zp0_2, zp0_4, zp0_5, zp0_6, zp0_7, zp0_8, zp0_9, zp0_10, zo1, zp1_0, zp1_5, zp1_6, zp1_9, zo16, zp16_0, zp16_5, zp16_6, zp16_9, zo31, zp31_0, zp31_5, zp31_6, zp31_9, zo46, zp46_0, zp46_1, zp46_2, zo79, zp79_0, zo83, zp83_0, zp83_1, zp83_2, zo87, zp87_0, zp87_1, zo121, zp121_0, zp121_1, zp121_2, zp121_4, zp121_5, zp121_6, zp121_7, zp121_8, zp121_16, zp121_17, zp121_18, zp121_21, zp121_23, zp121_24, zp121_25, zp121_26, zp121_27, zp121_28, zp121_29, zp121_30, zp121_31, zp121_32, zp121_33, zp121_34, zp79_2, zx2, zx13, zx14, zx15, zx17, zx28, zx29, zx30, zx32, zx43, zx44, zx45, zx47, zx78, zx80, zx84, zx85, zx86, zx88, zx89, zx90, zx99, zx120, zx122, zx123, zx124, zx125, zx126, zx127, zx128, zx129, zx130, zx131, zx132, zx133, zx134, zx135, zx136, zx137, zx138, zx139, zx140, zx141, zx142, zx143, zx144, zx145, zg2, zg17, zg32, zgo3, zgo18, zgo33, zl47, zlo, zlp, zlx, zs90, zso, zsp, zsx, zt99, zto, ztp1, ztp2, ztgo, ztso, ztsp, ztsx, zc0, zi0, zc1, zi1, zc2, zi2, zc3, zi3, zc4, zi4, zc5, zi5, y1]
        rfl
      · have hne : (nI (2 * D) = nI many) = False := zne (by omega) (by omega) (by omega)
        rw [if_neg (by omega), if_neg c2]
        simp only [fxX10_check_b181, am_gd_t, am_lt_e, am_bd_s, bi_0, bi_bz, bz0, bz1, nz2, nz10, nz100, hp_gi, hp_si, ↓reduceIte, if_true, if_false, Bool.true_eq_false, Bool.false_eq_true, eq_self, reduceCtorEq, zo0, zp0_0, zp0_1, zp0_2, zp0_4, zp0_5, zp0_6, zp0_7, zp0_8, zp0_9, zp0_10, zo1, zp1_0, zp1_5, zp1_6, zp1_9, zo16, zp16_0, zp16_5, zp16_6, zp16_9, zo31, zp31_0, zp31_5, zp31_6, zp31_9, zo46, zp46_0, zp46_1, zp46_2, zo79, zp79_0, zo83, zp83_0, zp83_1, zp83_2, zo87, zp87_0, zp87_1, zo121, zp121_0, zp121_1, zp121_2, zp121_4, zp121_5, zp121_6, zp121_7, zp121_8, zp121_16, zp121_17, zp121_18, zp121_21, zp121_23, zp121_24, zp121_25, zp121_26, zp121_27, zp121_28, zp121_29, zp121_30, zp121_31, zp121_32, zp121_33, zp121_34, zp79_2, zx2, zx13, zx14, zx15, zx17, zx28, zx29, zx30, zx32, zx43, zx44, zx45, zx47, zx78, zx80, zx84, zx85, zx86, zx88, zx89, zx90, zx99, zx120, zx122, zx123, zx124, zx125, zx126, zx127, zx128, zx129, zx130, zx131, zx132, zx133, zx134, zx135, zx136, zx137, zx138, zx139, zx140, zx141, zx142, zx143, zx144, zx145, zg2, zg17, zg32, zgo3, zgo18, zgo33, zl47, zlo, zlp, zlx, zs90, zso, zsp, zsx, zt99, zto, ztp1, ztp2, ztgo, ztso, ztsp, ztsx, zc0, zi0, zc1, zi1, zc2, zi2, zc3, zi3, zc4, zi4, zc5, zi5, y1, hne, one_p]
    · have hne : (nI r = nI (2 * D)) = False := zne (by omega) (by omega) (by omega)
      rw [if_pos (by omega)]
      by_cases c2 : r = many
      · subst c2
        simp only [fxX10_check_b181, am_gd_t, am_lt_e, am_bd_s, bi_0, bi_bz, bz0, bz1, nz2, nz10, nz100, hp_gi, hp_si, ↓reduceIte, if_true, if_false, Bool.true_eq_false, Bool.false_eq_true, eq_self, reduceCtorEq, zo0, zp0_0, zp0_1, zp0_2, zp0_4, zp0_5, zp0_6, zp0_7, zp0_8, zp0_9, zp0_10, zo1, zp1_0, zp1_5, zp1_6, zp1_9, zo16, zp16_0, zp16_5, zp16_6, zp16_9, zo31, zp31_0, zp31_5, zp31_6, zp31_9, zo46, zp46_0, zp46_1, zp46_2, zo79, zp79_0, zo83, zp83_0, zp83_1, zp83_2, zo87, zp87_0, zp87_1, zo121, zp121_0, zp121_1, zp121_2, zp121_4, zp121_5, zp121_6, zp121_7, zp121_8, zp121_16, zp121_17, zp121_18, zp121_21, zp121_23, zp121_24, zp121_25, zp121_26, zp121_27, zp121_28, zp121_29, zp121_30, zp121_31, zp121_32, zp121_33, zp121_34, zp79_2, zx2, zx13, zx14, zx15, zx17, zx28, zx29, zx30, zx32, zx43, zx44, zx45, zx47, zx78, zx80, zx84, zx85, zx86, zx88, zx89, zx90, zx99, zx120, zx122, zx123, zx124, zx125, zx126, zx127, zx128, zx129, zx130, zx131, zx132, zx133, zx134, zx135, zx136, zx137, zx138, zx139, zx140, zx141, zx142, zx143, zx144, zx145, zg2, zg17, zg32, zgo3, zgo18, zgo33, zl47, zlo, zlp, zlx, zs90, zso, zsp, zsx, zt99, zto, ztp1, ztp2, ztgo, ztso, ztsp, ztsx, zc0, zi0, zc1, zi1, zc2, zi2, zc3, zi3, zc4, zi4, zc5, zi5, y1, hne, one_p]
      · have hne2 : (nI r = nI many) = False := zne (by omega) (by omega) (by omega)
        simp only [fxX10_check_b181, am_gd_t, am_lt_e, am_bd_s, bi_0, bi_bz, bz0, bz1, nz2, nz10, nz100, hp_gi, hp_si, ↓reduceIte, if_true, if_false, Bool.true_eq_false, Bool.false_eq_true, eq_self, reduceCtorEq, zo0, zp0_0, zp0_1, zp0_2, zp0_4, zp0_5, zp0_6, zp0_7, zp0_8, zp0_9, zp0_10, zo1, zp1_0, zp1_5, zp1_6, zp1_9, zo16, zp16_0, zp16_5, zp16_6, zp16_9, zo31, zp31_0, zp31_5, zp31_6, zp31_9, zo46, zp46_0, zp46_1, zp46_2, zo79, zp79_0, zo83, zp83_0, zp83_1, zp83_2, zo87, zp87_0, zp87_1, zo121, zp121_0, zp121_1, zp121_2, zp121_4, zp121_5, zp121_6, zp121_7, zp121_8, zp121_16, zp121_17, zp121_18, zp121_21, zp121_23, zp121_24, zp121_25, zp121_26, zp121_27, zp121_28, zp121_29, zp121_30, zp121_31, zp121_32, zp121_33, zp121_34, zp79_2, zx2, zx13, zx14, zx15, zx17, zx28, zx29, zx30, zx32, zx43, zx44, zx45, zx47, zx78, zx80, zx84, zx85, zx86, zx88, zx89, zx90, zx99, zx120, zx122, zx123, zx124, zx125, zx126, zx127, zx128, zx129, zx130, zx131, zx132, zx133, zx134, zx135, zx136, zx137, zx138, zx139, zx140, zx141, zx142, zx143, zx144, zx145, zg2, zg17, zg32, zgo3, zgo18, zgo33, zl47, zlo, zlp, zlx, zs90, zso, zsp, zsx, zt99, zto, ztp1, ztp2, ztgo, ztso, ztsp, ztsx, zc0, zi0, zc1, zi1, zc2, zi2, zc3, zi3, zc4, zi4, zc5, zi5, y1, hne2, one_p]
  · by_cases h122 : k = 122
    · subst h122; rw [e4, rwz 122 (by decide) (by decide)]
    · unfold scrP at hk
      exact er k (by omega) (by omega) h122 (by omega) (by omega) (by omega)
