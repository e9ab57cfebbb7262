/-! ===== best, adds, partner ===== -/
theorem q_vos {lp S : Nat} {M : Mem} (hS : S < 1024) : fxX7_valueOfSet (some 83) (nI S) (hp lp M) = some (M 85 S, hp lp M) := by
  have h1 : iw (nI S) 0 (Int32.ofNat 1024 - 1) = true := iw_nI' (n := 1024) (by decide) hS
  simp (disch := omega) only [fxX7_valueOfSet, am_gd_t, am_lt_e, am_bd_s, bi_0, bi_bz, bz0, bz1, nz2, nz10, nz100, hp_gi, hp_si, ↓reduceIte, if_true, if_false, Bool.true_eq_false, Bool.false_eq_true, eq_self, reduceCtorEq, zo0, zp0_0, zp0_1, zp0_2, zp0_4, zp0_5, zp0_6, zp0_7, zp0_8, zp0_9, zp0_10, zo1, zp1_0, zp1_5, zp1_6, zp1_9, zo16, zp16_0, zp16_5, zp16_6, zp16_9, zo31, zp31_0, zp31_5, zp31_6, zp31_9, zo46, zp46_0, zp46_1, zp46_2, zo79, zp79_0, zo83, zp83_0, zp83_1, zp83_2, zo87, zp87_0, zp87_1, zo121, zp121_0, zp121_1, zp121_2, zp121_4, zp121_5, zp121_6, zp121_7, zp121_8, zp121_16, zp121_17, zp121_18, zp121_21, zp121_23, zp121_24, zp121_25, zp121_26, zp121_27, zp121_28, zp121_29, zp121_30, zp121_31, zp121_32, zp121_33, zp121_34, zp79_2, zx2, zx13, zx14, zx15, zx17, zx28, zx29, zx30, zx32, zx43, zx44, zx45, zx47, zx78, zx80, zx84, zx85, zx86, zx88, zx89, zx90, zx99, zx120, zx122, zx123, zx124, zx125, zx126, zx127, zx128, zx129, zx130, zx131, zx132, zx133, zx134, zx135, zx136, zx137, zx138, zx139, zx140, zx141, zx142, zx143, zx144, zx145, zg2, zg17, zg32, zgo3, zgo18, zgo33, zl47, zlo, zlp, zlx, zs90, zso, zsp, zsx, zt99, zto, ztp1, ztp2, ztgo, ztso, ztsp, ztsx, zc0, zi0, zc1, zi1, zc2, zi2, zc3, zi3, zc4, zi4, zc5, zi5, zin, zcl, nI_1, Bool.and_self, Bool.true_and, Bool.and_true, show am_ar (hp lp M) (some 85) 0 = true from rfl, show am_ln (hp lp M) (some 85) = 1024 from rfl, q_within, h1]
theorem pow_m1 {n : Nat} : nI (2 ^ n) - 1 = nI (2 ^ n - 1) := by
  have : 0 < 2 ^ n := Nat.two_pow_pos n
  exact pk_sub (b := 1) (by omega)
theorem q_allG {lp gb n : Nat} {M : Mem} (hg : isGu gb) (e : M gb 1 = nI n) (hn : n ≤ 10) : fxX2_allGloves (some gb) (hp lp M) = some (nI (2 ^ n - 1), hp lp M) := by
  simp (disch := omega) only [fxX2_allGloves, am_gd_t, am_lt_e, am_bd_s, bi_0, bi_bz, bz0, bz1, nz2, nz10, nz100, hp_gi, hp_si, ↓reduceIte, if_true, if_false, Bool.true_eq_false, Bool.false_eq_true, eq_self, reduceCtorEq, ob_gu hg, e, q_shl, pow_m1]
theorem q_all {lp n : Nat} {M : Mem} (e : M 122 1 = nI n) (hn : n ≤ 10) : fxX10_all (some 121) (hp lp M) = some (nI (2 ^ n - 1), hp lp M) := by
  simp (disch := omega) only [fxX10_all, am_gd_t, am_lt_e, am_bd_s, bi_0, bi_bz, bz0, bz1, nz2, nz10, nz100, hp_gi, hp_si, ↓reduceIte, if_true, if_false, Bool.true_eq_false, Bool.false_eq_true, eq_self, reduceCtorEq, zo0, zp0_0, zp0_1, zp0_2, zp0_4, zp0_5, zp0_6, zp0_7, zp0_8, zp0_9, zp0_10, zo1, zp1_0, zp1_5, zp1_6, zp1_9, zo16, zp16_0, zp16_5, zp16_6, zp16_9, zo31, zp31_0, zp31_5, zp31_6, zp31_9, zo46, zp46_0, zp46_1, zp46_2, zo79, zp79_0, zo83, zp83_0, zp83_1, zp83_2, zo87, zp87_0, zp87_1, zo121, zp121_0, zp121_1, zp121_2, zp121_4, zp121_5, zp121_6, zp121_7, zp121_8, zp121_16, zp121_17, zp121_18, zp121_21, zp121_23, zp121_24, zp121_25, zp121_26, zp121_27, zp121_28, zp121_29, zp121_30, zp121_31, zp121_32, zp121_33, zp121_34, zp79_2, zx2, zx13, zx14, zx15, zx17, zx28, zx29, zx30, zx32, zx43, zx44, zx45, zx47, zx78, zx80, zx84, zx85, zx86, zx88, zx89, zx90, zx99, zx120, zx122, zx123, zx124, zx125, zx126, zx127, zx128, zx129, zx130, zx131, zx132, zx133, zx134, zx135, zx136, zx137, zx138, zx139, zx140, zx141, zx142, zx143, zx144, zx145, zg2, zg17, zg32, zgo3, zgo18, zgo33, zl47, zlo, zlp, zlx, zs90, zso, zsp, zsx, zt99, zto, ztp1, ztp2, ztgo, ztso, ztsp, ztsx, zc0, zi0, zc1, zi1, zc2, zi2, zc3, zi3, zc4, zi4, zc5, zi5, e, q_shl, pow_m1]
theorem tab_c {lp gb : Nat} {M : Mem} {g : Nat → Int32} (hg : isGu gb) (hR : RC M gb g) : ∃ M1 M2, fxX7_weigh (some 83) (some gb) (some 46) (hp lp M) = some ((), hp lp M1) ∧ fxX7_pairUp (some 83) (hp lp M1) = some ((), hp lp M2) ∧ Tb (pG g) (wG g) (M2 85) (2 ^ cn (g 1)) ∧ (∀ a b, a < cn (g 1) → b < cn (g 1) → a ≠ b → M2 84 (10 * a + b) = pvS g a b) ∧ M2 83 3 = g 1 ∧ ∀ z, z ≠ 78 → z ≠ 83 → z ≠ 84 → z ≠ 85 → M2 z = M z := by
  obtain ⟨hn, en⟩ := hR.2.2.2.2.1.n
  obtain ⟨M1, p1, p2, p3, p4⟩ := q_weigh (lp := lp) hg hR
  obtain ⟨M2, q1, q2, q3⟩ := q_pairUp (lp := lp) hn (by rw [p3]; exact en) p2
  exact ⟨M1, M2, p1, q1, q2, by rw [q3 84 (by decide)]; exact p2, by rw [q3 83 (by decide)]; exact p3, fun z z1 z2 z3 z4 => by rw [q3 z z4, p4 z z1 z2 z3]⟩
/-- both tables made -/
theorem tab_both {lp : Nat} {M : Mem} (hI : Inv lp M) : ∃ M1 M2 M3, fxX7_weigh (some 83) (some 1) (some 46) (hp lp M) = some ((), hp lp M1) ∧ fxX7_pairUp (some 83) (hp lp M1) = some ((), hp lp M2) ∧ fxX10_findBests (some 121) (hp lp M2) = some ((), hp lp M3) ∧ (∀ z, z ≠ 78 → z ≠ 83 → z ≠ 84 → z ≠ 85 → M2 z = M z) ∧ (∀ z, z ≠ 125 → z ≠ 126 → z ≠ 135 → z ≠ 136 → M3 z = M2 z) ∧ (∀ S, S < 2 ^ cn (M 122 1) → M3 126 S = M2 85 S) ∧ (∀ a b, a < cn (M 122 1) → b < cn (M 122 1) → a ≠ b → M2 84 (10 * a + b) = pvS (M 122) a b ∧ M3 125 (10 * a + b) = pvS (M 122) a b) ∧ M2 83 3 = M 122 1 ∧ Inv lp M3 := by
  have hR := hI.1.1
  have hn := hR.2.2.2.2.1.n.1
  obtain ⟨M1, M2, p1, p2, p3, p4, p5, p6⟩ := tab_c (lp := lp) gu1 hR
  have r122 : M2 122 = M 122 := p6 122 (by decide) (by decide) (by decide) (by decide)
  obtain ⟨M3, s1, s2, s3, s4⟩ := q_findBests (lp := lp) (M0 := M) (M := M2) (by rw [r122]; exact ⟨hR.2.2.2.2.1, hR.2.2.2.1.1⟩)
  rw [r122] at s2 s3
  have er : ∀ z, z ≠ 78 → z ≠ 83 → z ≠ 84 → z ≠ 85 → z ≠ 125 → z ≠ 126 → z ≠ 135 → z ≠ 136 → M3 z = M z := fun z z1 z2 z3 z4 z5 z6 z7 z8 => by rw [s4 z z5 z6 z7 z8, p6 z z1 z2 z3 z4]
  have e121 : M3 121 = M 121 := er 121 (by decide) (by decide) (by decide) (by decide) (by decide) (by decide) (by decide) (by decide)
  refine ⟨M1, M2, M3, p1, p2, s1, p6, s4, fun S hS => (tabs_eq hn p3 s3 hS).symm, fun a b ha hb hab => ⟨p4 a b ha hb hab, s2 a b ha hb hab⟩, p5, hI.scr (fun k hk hk2 => ?_) (by rw [e121]) (by rw [e121]) (by rw [e121])⟩
  unfold scrP at hk
  exact er k (by omega) (by omega) (by omega) (by omega) (by omega) (by omega) (by omega) (by omega)
theorem P_best (a : Int32) : Pair (fxX9_best (some 0) a) (fxX10_best (some 121) a) := by
  intro lp M hI
  have hR := hI.1.1
  obtain ⟨hn, en⟩ := hR.2.2.2.2.1.n
  have e1 : M 1 1 = nI (cn (M 122 1)) := hR.1.2.1.trans en
  have hp10 : 2 ^ cn (M 122 1) ≤ 1024 := (Nat.pow_le_pow_right (by decide) hn : 2 ^ cn (M 122 1) ≤ 2 ^ 10)
  have hpos : 0 < 2 ^ cn (M 122 1) := Nat.two_pow_pos _
  cases hv : iw a 0 (nI (2 ^ cn (M 122 1) - 1)) with
  | false =>
    refine ⟨-1000000001, lp, M, M, ?_, ?_, hI⟩
    · simp only [fxX9_best, am_gd_t, am_lt_e, am_bd_s, bi_0, bi_bz, bz0, bz1, nz2, nz10, nz100, hp_gi, hp_si, ↓reduceIte, if_true, if_false, Bool.true_eq_false, Bool.false_eq_true, eq_self, reduceCtorEq, zo0, zp0_0, zp0_1, zp0_2, zp0_4, zp0_5, zp0_6, zp0_7, zp0_8, zp0_9, zp0_10, zo1, zp1_0, zp1_5, zp1_6, zp1_9, zo16, zp16_0, zp16_5, zp16_6, zp16_9, zo31, zp31_0, zp31_5, zp31_6, zp31_9, zo46, zp46_0, zp46_1, zp46_2, zo79, zp79_0, zo83, zp83_0, zp83_1, zp83_2, zo87, zp87_0, zp87_1, zo121, zp121_0, zp121_1, zp121_2, zp121_4, zp121_5, zp121_6, zp121_7, zp121_8, zp121_16, zp121_17, zp121_18, zp121_21, zp121_23, zp121_24, zp121_25, zp121_26, zp121_27, zp121_28, zp121_29, zp121_30, zp121_31, zp121_32, zp121_33, zp121_34, zp79_2, zx2, zx13, zx14, zx15, zx17, zx28, zx29, zx30, zx32, zx43, zx44, zx45, zx47, zx78, zx80, zx84, zx85, zx86, zx88, zx89, zx90, zx99, zx120, zx122, zx123, zx124, zx125, zx126, zx127, zx128, zx129, zx130, zx131, zx132, zx133, zx134, zx135, zx136, zx137, zx138, zx139, zx140, zx141, zx142, zx143, zx144, zx145, zg2, zg17, zg32, zgo3, zgo18, zgo33, zl47, zlo, zlp, zlx, zs90, zso, zsp, zsx, zt99, zto, ztp1, ztp2, ztgo, ztso, ztsp, ztsx, zc0, zi0, zc1, zi1, zc2, zi2, zc3, zi3, zc4, zi4, zc5, zi5, q_allG gu1 e1 hn, q_within, hv]
    · simp only [fxX10_best, am_gd_t, am_lt_e, am_bd_s, bi_0, bi_bz, bz0, bz1, nz2, nz10, nz100, hp_gi, hp_si, ↓reduceIte, if_true, if_false, Bool.true_eq_false, Bool.false_eq_true, eq_self, reduceCtorEq, zo0, zp0_0, zp0_1, zp0_2, zp0_4, zp0_5, zp0_6, zp0_7, zp0_8, zp0_9, zp0_10, zo1, zp1_0, zp1_5, zp1_6, zp1_9, zo16, zp16_0, zp16_5, zp16_6, zp16_9, zo31, zp31_0, zp31_5, zp31_6, zp31_9, zo46, zp46_0, zp46_1, zp46_2, zo79, zp79_0, zo83, zp83_0, zp83_1, zp83_2, zo87, zp87_0, zp87_1, zo121, zp121_0, zp121_1, zp121_2, zp121_4, zp121_5, zp121_6, zp121_7, zp121_8, zp121_16, zp121_17, zp121_18, zp121_21, zp121_23, zp121_24, zp121_25, zp121_26, zp121_27, zp121_28, zp121_29, zp121_30, zp121_31, zp121_32, zp121_33, zp121_34, zp79_2, zx2, zx13, zx14, zx15, zx17, zx28, zx29, zx30, zx32, zx43, zx44, zx45, zx47, zx78, zx80, zx84, zx85, zx86, zx88, zx89, zx90, zx99, zx120, zx122, zx123, zx124, zx125, zx126, zx127, zx128, zx129, zx130, zx131, zx132, zx133, zx134, zx135, zx136, zx137, zx138, zx139, zx140, zx141, zx142, zx143, zx144, zx145, zg2, zg17, zg32, zgo3, zgo18, zgo33, zl47, zlo, zlp, zlx, zs90, zso, zsp, zsx, zt99, zto, ztp1, ztp2, ztgo, ztso, ztsp, ztsx, zc0, zi0, zc1, zi1, zc2, zi2, zc3, zi3, zc4, zi4, zc5, zi5, q_all en hn, q_in, hv]
  | true =>
    obtain ⟨S, hS, rfl⟩ := iw_lit (2 ^ cn (M 122 1) - 1) rfl (by omega) hv
    obtain ⟨M1, M2, M3, t1, t2, t3, t4, t5, t6, -, -, t9⟩ := tab_both hI
    have en2 : M2 122 1 = nI (cn (M 122 1)) := by rw [t4 122 (by decide) (by decide) (by decide) (by decide)]; exact en
    refine ⟨M2 85 S, lp, M2, M3, ?_, ?_, t9⟩
    · simp (disch := omega) only [fxX9_best, am_gd_t, am_lt_e, am_bd_s, bi_0, bi_bz, bz0, bz1, nz2, nz10, nz100, hp_gi, hp_si, ↓reduceIte, if_true, if_false, Bool.true_eq_false, Bool.false_eq_true, eq_self, reduceCtorEq, zo0, zp0_0, zp0_1, zp0_2, zp0_4, zp0_5, zp0_6, zp0_7, zp0_8, zp0_9, zp0_10, zo1, zp1_0, zp1_5, zp1_6, zp1_9, zo16, zp16_0, zp16_5, zp16_6, zp16_9, zo31, zp31_0, zp31_5, zp31_6, zp31_9, zo46, zp46_0, zp46_1, zp46_2, zo79, zp79_0, zo83, zp83_0, zp83_1, zp83_2, zo87, zp87_0, zp87_1, zo121, zp121_0, zp121_1, zp121_2, zp121_4, zp121_5, zp121_6, zp121_7, zp121_8, zp121_16, zp121_17, zp121_18, zp121_21, zp121_23, zp121_24, zp121_25, zp121_26, zp121_27, zp121_28, zp121_29, zp121_30, zp121_31, zp121_32, zp121_33, zp121_34, zp79_2, zx2, zx13, zx14, zx15, zx17, zx28, zx29, zx30, zx32, zx43, zx44, zx45, zx47, zx78, zx80, zx84, zx85, zx86, zx88, zx89, zx90, zx99, zx120, zx122, zx123, zx124, zx125, zx126, zx127, zx128, zx129, zx130, zx131, zx132, zx133, zx134, zx135, zx136, zx137, zx138, zx139, zx140, zx141, zx142, zx143, zx144, zx145, zg2, zg17, zg32, zgo3, zgo18, zgo33, zl47, zlo, zlp, zlx, zs90, zso, zsp, zsx, zt99, zto, ztp1, ztp2, ztgo, ztso, ztsp, ztsx, zc0, zi0, zc1, zi1, zc2, zi2, zc3, zi3, zc4, zi4, zc5, zi5, q_allG gu1 e1 hn, q_within, hv, t1, t2, q_vos]
    · simp (disch := omega) only [fxX10_best, am_gd_t, am_lt_e, am_bd_s, bi_0, bi_bz, bz0, bz1, nz2, nz10, nz100, hp_gi, hp_si, ↓reduceIte, if_true, if_false, Bool.true_eq_false, Bool.false_eq_true, eq_self, reduceCtorEq, zo0, zp0_0, zp0_1, zp0_2, zp0_4, zp0_5, zp0_6, zp0_7, zp0_8, zp0_9, zp0_10, zo1, zp1_0, zp1_5, zp1_6, zp1_9, zo16, zp16_0, zp16_5, zp16_6, zp16_9, zo31, zp31_0, zp31_5, zp31_6, zp31_9, zo46, zp46_0, zp46_1, zp46_2, zo79, zp79_0, zo83, zp83_0, zp83_1, zp83_2, zo87, zp87_0, zp87_1, zo121, zp121_0, zp121_1, zp121_2, zp121_4, zp121_5, zp121_6, zp121_7, zp121_8, zp121_16, zp121_17, zp121_18, zp121_21, zp121_23, zp121_24, zp121_25, zp121_26, zp121_27, zp121_28, zp121_29, zp121_30, zp121_31, zp121_32, zp121_33, zp121_34, zp79_2, zx2, zx13, zx14, zx15, zx17, zx28, zx29, zx30, zx32, zx43, zx44, zx45, zx47, zx78, zx80, zx84, zx85, zx86, zx88, zx89, zx90, zx99, zx120, zx122, zx123, zx124, zx125, zx126, zx127, zx128, zx129, zx130, zx131, zx132, zx133, zx134, zx135, zx136, zx137, zx138, zx139, zx140, zx141, zx142, zx143, zx144, zx145, zg2, zg17, zg32, zgo3, zgo18, zgo33, zl47, zlo, zlp, zlx, zs90, zso, zsp, zsx, zt99, zto, ztp1, ztp2, ztgo, ztso, ztsp, ztsx, zc0, zi0, zc1, zi1, zc2, zi2, zc3, zi3, zc4, zi4, zc5, zi5, zin, zcl, nI_1, Bool.and_self, Bool.true_and, Bool.and_true, q_all en2 hn, q_in, hv, t3, t6]
theorem P_adds (a : Int32) : Pair (fxX9_adds (some 0) a) (fxX10_adds (some 121) a) := by
  intro lp M hI
  have hR := hI.1.1
  obtain ⟨hn, en⟩ := hR.2.2.2.2.1.n
  have hp10 : 2 ^ cn (M 122 1) ≤ 1024 := (Nat.pow_le_pow_right (by decide) hn : 2 ^ cn (M 122 1) ≤ 2 ^ 10)
  have hpos : 0 < 2 ^ cn (M 122 1) := Nat.two_pow_pos _
  have h1 := q_h1 hI
  rcases gl_cases hI a with ha | ⟨ha, i, hi, hi10, rfl⟩
  · refine ⟨-1000000001, lp, M, M, ?_, ?_, hI⟩
    · simp only [fxX9_adds, am_gd_t, am_lt_e, am_bd_s, bi_0, bi_bz, bz0, bz1, nz2, nz10, nz100, hp_gi, hp_si, ob_0, ob_1, pt00, pt10, ↓reduceIte, if_true, if_false, Bool.true_eq_false, Bool.false_eq_true, eq_self, reduceCtorEq, h1, ha]
    · simp only [fxX10_adds, am_gd_t, am_lt_e, am_bd_s, bi_0, bi_bz, bz0, bz1, nz2, nz10, nz100, hp_gi, hp_si, ob_M, pm0, pm0i, ↓reduceIte, if_true, if_false, Bool.true_eq_false, Bool.false_eq_true, eq_self, reduceCtorEq, q_isGlove, ha]
  · obtain ⟨M1, M2, M3, t1, t2, t3, t4, t5, t6, -, -, t9⟩ := tab_both hI
    have r2 : M2 122 = M 122 := t4 122 (by decide) (by decide) (by decide) (by decide)
    have en3 : M3 122 1 = nI (cn (M 122 1)) := by rw [t5 122 (by decide) (by decide) (by decide) (by decide), r2]; exact en
    have e12 : M2 1 1 = nI (cn (M 122 1)) := by rw [t4 1 (by decide) (by decide) (by decide) (by decide)]; exact hR.1.2.1.trans en
    have ha2 : iw (nI i) 0 (M2 122 1 - 1) = true := by rw [r2]; exact ha
    have hc := clr_le (2 ^ cn (M 122 1) - 1) i
    refine ⟨M2 85 (2 ^ cn (M 122 1) - 1) - M2 85 (clr (2 ^ cn (M 122 1) - 1) i), lp, M2, M3, ?_, ?_, t9⟩
    · simp (disch := omega) only [fxX9_adds, am_gd_t, am_lt_e, am_bd_s, bi_0, bi_bz, bz0, bz1, nz2, nz10, nz100, hp_gi, hp_si, ob_0, ob_1, pt00, pt10, ↓reduceIte, if_true, if_false, Bool.true_eq_false, Bool.false_eq_true, eq_self, reduceCtorEq, zo0, zp0_0, zp0_1, zp0_2, zp0_4, zp0_5, zp0_6, zp0_7, zp0_8, zp0_9, zp0_10, zo1, zp1_0, zp1_5, zp1_6, zp1_9, zo16, zp16_0, zp16_5, zp16_6, zp16_9, zo31, zp31_0, zp31_5, zp31_6, zp31_9, zo46, zp46_0, zp46_1, zp46_2, zo79, zp79_0, zo83, zp83_0, zp83_1, zp83_2, zo87, zp87_0, zp87_1, zo121, zp121_0, zp121_1, zp121_2, zp121_4, zp121_5, zp121_6, zp121_7, zp121_8, zp121_16, zp121_17, zp121_18, zp121_21, zp121_23, zp121_24, zp121_25, zp121_26, zp121_27, zp121_28, zp121_29, zp121_30, zp121_31, zp121_32, zp121_33, zp121_34, zp79_2, zx2, zx13, zx14, zx15, zx17, zx28, zx29, zx30, zx32, zx43, zx44, zx45, zx47, zx78, zx80, zx84, zx85, zx86, zx88, zx89, zx90, zx99, zx120, zx122, zx123, zx124, zx125, zx126, zx127, zx128, zx129, zx130, zx131, zx132, zx133, zx134, zx135, zx136, zx137, zx138, zx139, zx140, zx141, zx142, zx143, zx144, zx145, zg2, zg17, zg32, zgo3, zgo18, zgo33, zl47, zlo, zlp, zlx, zs90, zso, zsp, zsx, zt99, zto, ztp1, ztp2, ztgo, ztso, ztsp, ztsx, zc0, zi0, zc1, zi1, zc2, zi2, zc3, zi3, zc4, zi4, zc5, zi5, h1, ha, t1, t2, q_allG gu1 e12 hn, q_clr, q_vos]
    · simp (disch := omega) only [fxX10_adds, am_gd_t, am_lt_e, am_bd_s, bi_0, bi_bz, bz0, bz1, nz2, nz10, nz100, hp_gi, hp_si, ob_M, pm0, pm0i, ↓reduceIte, if_true, if_false, Bool.true_eq_false, Bool.false_eq_true, eq_self, reduceCtorEq, zo0, zp0_0, zp0_1, zp0_2, zp0_4, zp0_5, zp0_6, zp0_7, zp0_8, zp0_9, zp0_10, zo1, zp1_0, zp1_5, zp1_6, zp1_9, zo16, zp16_0, zp16_5, zp16_6, zp16_9, zo31, zp31_0, zp31_5, zp31_6, zp31_9, zo46, zp46_0, zp46_1, zp46_2, zo79, zp79_0, zo83, zp83_0, zp83_1, zp83_2, zo87, zp87_0, zp87_1, zo121, zp121_0, zp121_1, zp121_2, zp121_4, zp121_5, zp121_6, zp121_7, zp121_8, zp121_16, zp121_17, zp121_18, zp121_21, zp121_23, zp121_24, zp121_25, zp121_26, zp121_27, zp121_28, zp121_29, zp121_30, zp121_31, zp121_32, zp121_33, zp121_34, zp79_2, zx2, zx13, zx14, zx15, zx17, zx28, zx29, zx30, zx32, zx43, zx44, zx45, zx47, zx78, zx80, zx84, zx85, zx86, zx88, zx89, zx90, zx99, zx120, zx122, zx123, zx124, zx125, zx126, zx127, zx128, zx129, zx130, zx131, zx132, zx133, zx134, zx135, zx136, zx137, zx138, zx139, zx140, zx141, zx142, zx143, zx144, zx145, zg2, zg17, zg32, zgo3, zgo18, zgo33, zl47, zlo, zlp, zlx, zs90, zso, zsp, zsx, zt99, zto, ztp1, ztp2, ztgo, ztso, ztsp, ztsx, zc0, zi0, zc1, zi1, zc2, zi2, zc3, zi3, zc4, zi4, zc5, zi5, zin, zcl, nI_1, Bool.and_self, Bool.true_and, Bool.and_true, q_isGlove, ha2, t3, q_all en3 hn, q_clr, t6]
theorem nm1 {t : Nat} (h : t < 1000000) : ¬ nI t = -1 := by
  rw [nI_nm1 h]; exact not_false
/-- the least partner of e in S -/
def lmS (V : Nat → Nat → Int32) (b : Nat → Int32) (e S : Nat) : Nat → Nat → Int32
  | 0, _ => -1
  | k + 1, i => if S.testBit i = true ∧ ¬ V e i = -1 ∧ V e i + b (clr (clr S e) i) = b S then nI i else lmS V b e S k (i + 1)
theorem lm_c {V : Nat → Nat → Int32} {b : Nat → Int32} {e S : Nat} : ∀ k i, lmS V b e S k i = -1 ∨ ∃ y, i ≤ y ∧ y < i + k ∧ lmS V b e S k i = nI y ∧ S.testBit y = true := by
  intro k
  induction k with
  | zero => intro i; exact Or.inl rfl
  | succ k ih =>
    intro i
    unfold lmS
    split
    · next h => exact Or.inr ⟨i, Nat.le_refl _, by omega, rfl, h.1⟩
    · rcases ih (i + 1) with q | ⟨y, y1, y2, y3, y4⟩
      · exact Or.inl q
      · exact Or.inr ⟨y, by omega, by omega, y3, y4⟩
def rmS (S i : Nat) (m : Int32) : Nat := if m = -1 then clr S i else clr (clr S i) (cn m)
def ptn (V : Nat → Nat → Int32) (b : Nat → Int32) (n gl : Nat) : Nat → Nat → Nat → Int32
  | 0, _, _ => -1
  | k + 1, i, S => if S.testBit i = true then (if i = gl then lmS V b i S (n - (i + 1)) (i + 1) else if lmS V b i S (n - (i + 1)) (i + 1) = nI gl then nI i else ptn V b n gl k (i + 1) (rmS S i (lmS V b i S (n - (i + 1)) (i + 1)))) else ptn V b n gl k (i + 1) S
theorem q_leastMate {lp n e S : Nat} {M : Mem} {g : Nat → Int32} (hn : n ≤ 10) (he : e < n) (hS : S < 2 ^ n) (e3 : M 83 3 = nI n) (hV : ∀ a b, a < n → b < n → a ≠ b → M 84 (10 * a + b) = pvS g a b) : fxX7_leastMate (some 83) (nI e) (nI S) (hp lp M) = some (lmS (pvS g) (M 85) e S (n - (e + 1)) (e + 1), hp lp M) := by
  have hS10 := n10 hn hS
  have L : ∀ k i fuel, i + k = n → e < i → k < fuel → fxX7_leastMate_b4 fuel (some 83) (nI e) (nI S) (nI i) (hp lp M) = some (lmS (pvS g) (M 85) e S k i, hp lp M) := by
    intro k
    induction k with
    | zero =>
      intro i fuel hi hei hf
      obtain ⟨fuel, rfl⟩ : ∃ f, fuel = f + 1 := ⟨fuel - 1, by omega⟩
      obtain rfl : i = n := by omega
      simp (disch := omega) only [fxX7_leastMate_b4, am_gd_t, am_lt_e, am_bd_s, bi_0, bi_bz, bz0, bz1, nz2, nz10, nz100, hp_gi, hp_si, ↓reduceIte, if_true, if_false, Bool.true_eq_false, Bool.false_eq_true, eq_self, reduceCtorEq, zo0, zp0_0, zp0_1, zp0_2, zp0_4, zp0_5, zp0_6, zp0_7, zp0_8, zp0_9, zp0_10, zo1, zp1_0, zp1_5, zp1_6, zp1_9, zo16, zp16_0, zp16_5, zp16_6, zp16_9, zo31, zp31_0, zp31_5, zp31_6, zp31_9, zo46, zp46_0, zp46_1, zp46_2, zo79, zp79_0, zo83, zp83_0, zp83_1, zp83_2, zo87, zp87_0, zp87_1, zo121, zp121_0, zp121_1, zp121_2, zp121_4, zp121_5, zp121_6, zp121_7, zp121_8, zp121_16, zp121_17, zp121_18, zp121_21, zp121_23, zp121_24, zp121_25, zp121_26, zp121_27, zp121_28, zp121_29, zp121_30, zp121_31, zp121_32, zp121_33, zp121_34, zp79_2, zx2, zx13, zx14, zx15, zx17, zx28, zx29, zx30, zx32, zx43, zx44, zx45, zx47, zx78, zx80, zx84, zx85, zx86, zx88, zx89, zx90, zx99, zx120, zx122, zx123, zx124, zx125, zx126, zx127, zx128, zx129, zx130, zx131, zx132, zx133, zx134, zx135, zx136, zx137, zx138, zx139, zx140, zx141, zx142, zx143, zx144, zx145, zg2, zg17, zg32, zgo3, zgo18, zgo33, zl47, zlo, zlp, zlx, zs90, zso, zsp, zsx, zt99, zto, ztp1, ztp2, ztgo, ztso, ztsp, ztsx, zc0, zi0, zc1, zi1, zc2, zi2, zc3, zi3, zc4, zi4, zc5, zi5, e3, zle', lmS]
    | succ k ih =>
      intro i fuel hi hei hf
      obtain ⟨fuel, rfl⟩ : ∃ f, fuel = f + 1 := ⟨fuel - 1, by omega⟩
      have ev := hV e i he (by omega) (by omega)
      have hI := ih (i + 1) fuel (by omega) (by omega) (by omega)
      have c1 := clr_le S e
      have c2 := clr_le (clr S e) i
      unfold lmS
      cases hb : S.testBit i with
      | false =>
        simp (disch := omega) only [fxX7_leastMate_b4, fxX7_leastMate_b76, am_gd_t, am_lt_e, am_bd_s, bi_0, bi_bz, bz0, bz1, nz2, nz10, nz100, hp_gi, hp_si, ↓reduceIte, if_true, if_false, Bool.true_eq_false, Bool.false_eq_true, eq_self, reduceCtorEq, zo0, zp0_0, zp0_1, zp0_2, zp0_4, zp0_5, zp0_6, zp0_7, zp0_8, zp0_9, zp0_10, zo1, zp1_0, zp1_5, zp1_6, zp1_9, zo16, zp16_0, zp16_5, zp16_6, zp16_9, zo31, zp31_0, zp31_5, zp31_6, zp31_9, zo46, zp46_0, zp46_1, zp46_2, zo79, zp79_0, zo83, zp83_0, zp83_1, zp83_2, zo87, zp87_0, zp87_1, zo121, zp121_0, zp121_1, zp121_2, zp121_4, zp121_5, zp121_6, zp121_7, zp121_8, zp121_16, zp121_17, zp121_18, zp121_21, zp121_23, zp121_24, zp121_25, zp121_26, zp121_27, zp121_28, zp121_29, zp121_30, zp121_31, zp121_32, zp121_33, zp121_34, zp79_2, zx2, zx13, zx14, zx15, zx17, zx28, zx29, zx30, zx32, zx43, zx44, zx45, zx47, zx78, zx80, zx84, zx85, zx86, zx88, zx89, zx90, zx99, zx120, zx122, zx123, zx124, zx125, zx126, zx127, zx128, zx129, zx130, zx131, zx132, zx133, zx134, zx135, zx136, zx137, zx138, zx139, zx140, zx141, zx142, zx143, zx144, zx145, zg2, zg17, zg32, zgo3, zgo18, zgo33, zl47, zlo, zlp, zlx, zs90, zso, zsp, zsx, zt99, zto, ztp1, ztp2, ztgo, ztso, ztsp, ztsx, zc0, zi0, zc1, zi1, zc2, zi2, zc3, zi3, zc4, zi4, zc5, zi5, zin, zcl, nI_1, Bool.and_self, Bool.true_and, Bool.and_true, e3, zle, ix10, bit1, hb, hI, false_and]
      | true =>
        by_cases hm : pvS g e i = -1
        · rw [hm] at ev
          simp (disch := omega) only [fxX7_leastMate_b4, fxX7_leastMate_b76, am_gd_t, am_lt_e, am_bd_s, bi_0, bi_bz, bz0, bz1, nz2, nz10, nz100, hp_gi, hp_si, ↓reduceIte, if_true, if_false, Bool.true_eq_false, Bool.false_eq_true, eq_self, reduceCtorEq, zo0, zp0_0, zp0_1, zp0_2, zp0_4, zp0_5, zp0_6, zp0_7, zp0_8, zp0_9, zp0_10, zo1, zp1_0, zp1_5, zp1_6, zp1_9, zo16, zp16_0, zp16_5, zp16_6, zp16_9, zo31, zp31_0, zp31_5, zp31_6, zp31_9, zo46, zp46_0, zp46_1, zp46_2, zo79, zp79_0, zo83, zp83_0, zp83_1, zp83_2, zo87, zp87_0, zp87_1, zo121, zp121_0, zp121_1, zp121_2, zp121_4, zp121_5, zp121_6, zp121_7, zp121_8, zp121_16, zp121_17, zp121_18, zp121_21, zp121_23, zp121_24, zp121_25, zp121_26, zp121_27, zp121_28, zp121_29, zp121_30, zp121_31, zp121_32, zp121_33, zp121_34, zp79_2, zx2, zx13, zx14, zx15, zx17, zx28, zx29, zx30, zx32, zx43, zx44, zx45, zx47, zx78, zx80, zx84, zx85, zx86, zx88, zx89, zx90, zx99, zx120, zx122, zx123, zx124, zx125, zx126, zx127, zx128, zx129, zx130, zx131, zx132, zx133, zx134, zx135, zx136, zx137, zx138, zx139, zx140, zx141, zx142, zx143, zx144, zx145, zg2, zg17, zg32, zgo3, zgo18, zgo33, zl47, zlo, zlp, zlx, zs90, zso, zsp, zsx, zt99, zto, ztp1, ztp2, ztgo, ztso, ztsp, ztsx, zc0, zi0, zc1, zi1, zc2, zi2, zc3, zi3, zc4, zi4, zc5, zi5, zin, zcl, nI_1, Bool.and_self, Bool.true_and, Bool.and_true, e3, zle, ix10, bit1, hb, hI, ev, hm, not_true, false_and, and_false]
        · by_cases hq : pvS g e i + M 85 (clr (clr S e) i) = M 85 S
          · simp (disch := omega) only [fxX7_leastMate_b4, fxX7_leastMate_b76, am_gd_t, am_lt_e, am_bd_s, bi_0, bi_bz, bz0, bz1, nz2, nz10, nz100, hp_gi, hp_si, ↓reduceIte, if_true, if_false, Bool.true_eq_false, Bool.false_eq_true, eq_self, reduceCtorEq, zo0, zp0_0, zp0_1, zp0_2, zp0_4, zp0_5, zp0_6, zp0_7, zp0_8, zp0_9, zp0_10, zo1, zp1_0, zp1_5, zp1_6, zp1_9, zo16, zp16_0, zp16_5, zp16_6, zp16_9, zo31, zp31_0, zp31_5, zp31_6, zp31_9, zo46, zp46_0, zp46_1, zp46_2, zo79, zp79_0, zo83, zp83_0, zp83_1, zp83_2, zo87, zp87_0, zp87_1, zo121, zp121_0, zp121_1, zp121_2, zp121_4, zp121_5, zp121_6, zp121_7, zp121_8, zp121_16, zp121_17, zp121_18, zp121_21, zp121_23, zp121_24, zp121_25, zp121_26, zp121_27, zp121_28, zp121_29, zp121_30, zp121_31, zp121_32, zp121_33, zp121_34, zp79_2, zx2, zx13, zx14, zx15, zx17, zx28, zx29, zx30, zx32, zx43, zx44, zx45, zx47, zx78, zx80, zx84, zx85, zx86, zx88, zx89, zx90, zx99, zx120, zx122, zx123, zx124, zx125, zx126, zx127, zx128, zx129, zx130, zx131, zx132, zx133, zx134, zx135, zx136, zx137, zx138, zx139, zx140, zx141, zx142, zx143, zx144, zx145, zg2, zg17, zg32, zgo3, zgo18, zgo33, zl47, zlo, zlp, zlx, zs90, zso, zsp, zsx, zt99, zto, ztp1, ztp2, ztgo, ztso, ztsp, ztsx, zc0, zi0, zc1, zi1, zc2, zi2, zc3, zi3, zc4, zi4, zc5, zi5, zin, zcl, nI_1, Bool.and_self, Bool.true_and, Bool.and_true, e3, zle, ix10, bit1, hb, ev, hm, q_clr, hq, not_false_eq_true, and_self]
          · simp (disch := omega) only [fxX7_leastMate_b4, fxX7_leastMate_b76, am_gd_t, am_lt_e, am_bd_s, bi_0, bi_bz, bz0, bz1, nz2, nz10, nz100, hp_gi, hp_si, ↓reduceIte, if_true, if_false, Bool.true_eq_false, Bool.false_eq_true, eq_self, reduceCtorEq, zo0, zp0_0, zp0_1, zp0_2, zp0_4, zp0_5, zp0_6, zp0_7, zp0_8, zp0_9, zp0_10, zo1, zp1_0, zp1_5, zp1_6, zp1_9, zo16, zp16_0, zp16_5, zp16_6, zp16_9, zo31, zp31_0, zp31_5, zp31_6, zp31_9, zo46, zp46_0, zp46_1, zp46_2, zo79, zp79_0, zo83, zp83_0, zp83_1, zp83_2, zo87, zp87_0, zp87_1, zo121, zp121_0, zp121_1, zp121_2, zp121_4, zp121_5, zp121_6, zp121_7, zp121_8, zp121_16, zp121_17, zp121_18, zp121_21, zp121_23, zp121_24, zp121_25, zp121_26, zp121_27, zp121_28, zp121_29, zp121_30, zp121_31, zp121_32, zp121_33, zp121_34, zp79_2, zx2, zx13, zx14, zx15, zx17, zx28, zx29, zx30, zx32, zx43, zx44, zx45, zx47, zx78, zx80, zx84, zx85, zx86, zx88, zx89, zx90, zx99, zx120, zx122, zx123, zx124, zx125, zx126, zx127, zx128, zx129, zx130, zx131, zx132, zx133, zx134, zx135, zx136, zx137, zx138, zx139, zx140, zx141, zx142, zx143, zx144, zx145, zg2, zg17, zg32, zgo3, zgo18, zgo33, zl47, zlo, zlp, zlx, zs90, zso, zsp, zsx, zt99, zto, ztp1, ztp2, ztgo, ztso, ztsp, ztsx, zc0, zi0, zc1, zi1, zc2, zi2, zc3, zi3, zc4, zi4, zc5, zi5, zin, zcl, nI_1, Bool.and_self, Bool.true_and, Bool.and_true, e3, zle, ix10, bit1, hb, hI, ev, hm, q_clr, hq, and_false]
  have := L (n - (e + 1)) (e + 1) am_F (by omega) (by omega) (by unfold am_F; omega)
  simp only [fxX7_leastMate, am_gd_t, am_lt_e, am_bd_s, bi_0, bi_bz, bz0, bz1, nz2, nz10, nz100, hp_gi, hp_si, nI_1]
  exact this
theorem rm_lt {V : Nat → Nat → Int32} {b : Nat → Int32} {n i S : Nat} (hn : n ≤ 10) (hS : S < 2 ^ n) (hi : i < n) : rmS S i (lmS V b i S (n - (i + 1)) (i + 1)) < 2 ^ n := by
  unfold rmS
  have c1 := clr_le S i
  split
  · omega
  · have c2 := clr_le (clr S i) (cn (lmS V b i S (n - (i + 1)) (i + 1)))
    omega
theorem q_mateOf {lp n gl : Nat} {M : Mem} {g : Nat → Int32} (hn : n ≤ 10) (hgl : gl < n) (e3 : M 83 3 = nI n) (hV : ∀ a b, a < n → b < n → a ≠ b → M 84 (10 * a + b) = pvS g a b) : fxX7_mateOf (some 83) (nI gl) (hp lp M) = some (ptn (pvS g) (M 85) n gl n 0 (2 ^ n - 1), hp lp M) := by
  have hpos : 0 < 2 ^ n := Nat.two_pow_pos n
  have L : ∀ k i fuel S, i + k = n → S < 2 ^ n → k < fuel → fxX7_mateOf_b11 fuel (some 83) (nI gl) (nI S) (nI i) (hp lp M) = some (ptn (pvS g) (M 85) n gl k i S, hp lp M) := by
    intro k
    induction k with
    | zero =>
      intro i fuel S hi hS hf
      obtain ⟨fuel, rfl⟩ : ∃ f, fuel = f + 1 := ⟨fuel - 1, by omega⟩
      obtain rfl : i = n := by omega
      simp (disch := omega) only [fxX7_mateOf_b11, am_gd_t, am_lt_e, am_bd_s, bi_0, bi_bz, bz0, bz1, nz2, nz10, nz100, hp_gi, hp_si, ↓reduceIte, if_true, if_false, Bool.true_eq_false, Bool.false_eq_true, eq_self, reduceCtorEq, zo0, zp0_0, zp0_1, zp0_2, zp0_4, zp0_5, zp0_6, zp0_7, zp0_8, zp0_9, zp0_10, zo1, zp1_0, zp1_5, zp1_6, zp1_9, zo16, zp16_0, zp16_5, zp16_6, zp16_9, zo31, zp31_0, zp31_5, zp31_6, zp31_9, zo46, zp46_0, zp46_1, zp46_2, zo79, zp79_0, zo83, zp83_0, zp83_1, zp83_2, zo87, zp87_0, zp87_1, zo121, zp121_0, zp121_1, zp121_2, zp121_4, zp121_5, zp121_6, zp121_7, zp121_8, zp121_16, zp121_17, zp121_18, zp121_21, zp121_23, zp121_24, zp121_25, zp121_26, zp121_27, zp121_28, zp121_29, zp121_30, zp121_31, zp121_32, zp121_33, zp121_34, zp79_2, zx2, zx13, zx14, zx15, zx17, zx28, zx29, zx30, zx32, zx43, zx44, zx45, zx47, zx78, zx80, zx84, zx85, zx86, zx88, zx89, zx90, zx99, zx120, zx122, zx123, zx124, zx125, zx126, zx127, zx128, zx129, zx130, zx131, zx132, zx133, zx134, zx135, zx136, zx137, zx138, zx139, zx140, zx141, zx142, zx143, zx144, zx145, zg2, zg17, zg32, zgo3, zgo18, zgo33, zl47, zlo, zlp, zlx, zs90, zso, zsp, zsx, zt99, zto, ztp1, ztp2, ztgo, ztso, ztsp, ztsx, zc0, zi0, zc1, zi1, zc2, zi2, zc3, zi3, zc4, zi4, zc5, zi5, e3, zle', ptn]
    | succ k ih =>
      intro i fuel S hi hS hf
      obtain ⟨fuel, rfl⟩ : ∃ f, fuel = f + 1 := ⟨fuel - 1, by omega⟩
      have hS10 := n10 hn hS
      unfold ptn
      cases hb : S.testBit i with
      | false =>
        have hI := ih (i + 1) fuel S (by omega) hS (by omega)
        simp (disch := omega) only [fxX7_mateOf_b11, fxX7_mateOf_b75, am_gd_t, am_lt_e, am_bd_s, bi_0, bi_bz, bz0, bz1, nz2, nz10, nz100, hp_gi, hp_si, ↓reduceIte, if_true, if_false, Bool.true_eq_false, Bool.false_eq_true, eq_self, reduceCtorEq, zo0, zp0_0, zp0_1, zp0_2, zp0_4, zp0_5, zp0_6, zp0_7, zp0_8, zp0_9, zp0_10, zo1, zp1_0, zp1_5, zp1_6, zp1_9, zo16, zp16_0, zp16_5, zp16_6, zp16_9, zo31, zp31_0, zp31_5, zp31_6, zp31_9, zo46, zp46_0, zp46_1, zp46_2, zo79, zp79_0, zo83, zp83_0, zp83_1, zp83_2, zo87, zp87_0, zp87_1, zo121, zp121_0, zp121_1, zp121_2, zp121_4, zp121_5, zp121_6, zp121_7, zp121_8, zp121_16, zp121_17, zp121_18, zp121_21, zp121_23, zp121_24, zp121_25, zp121_26, zp121_27, zp121_28, zp121_29, zp121_30, zp121_31, zp121_32, zp121_33, zp121_34, zp79_2, zx2, zx13, zx14, zx15, zx17, zx28, zx29, zx30, zx32, zx43, zx44, zx45, zx47, zx78, zx80, zx84, zx85, zx86, zx88, zx89, zx90, zx99, zx120, zx122, zx123, zx124, zx125, zx126, zx127, zx128, zx129, zx130, zx131, zx132, zx133, zx134, zx135, zx136, zx137, zx138, zx139, zx140, zx141, zx142, zx143, zx144, zx145, zg2, zg17, zg32, zgo3, zgo18, zgo33, zl47, zlo, zlp, zlx, zs90, zso, zsp, zsx, zt99, zto, ztp1, ztp2, ztgo, ztso, ztsp, ztsx, zc0, zi0, zc1, zi1, zc2, zi2, zc3, zi3, zc4, zi4, zc5, zi5, e3, zle, bit1, hb, nI_1, hI]
      | true =>
        have hlm := q_leastMate (lp := lp) hn (show i < n by omega) hS e3 hV
        have hI := ih (i + 1) fuel _ (by omega) (rm_lt (V := pvS g) (b := M 85) hn hS (show i < n by omega)) (by omega)
        rcases lm_c (V := pvS g) (b := M 85) (e := i) (S := S) (n - (i + 1)) (i + 1) with q | ⟨y, y1, y2, q, y4⟩
        · rw [q] at hlm hI ⊢
          unfold rmS at hI ⊢
          rw [if_pos rfl] at hI ⊢
          by_cases hig : i = gl
          · subst hig
            simp (disch := omega) only [fxX7_mateOf_b11, am_gd_t, am_lt_e, am_bd_s, bi_0, bi_bz, bz0, bz1, nz2, nz10, nz100, hp_gi, hp_si, ↓reduceIte, if_true, if_false, Bool.true_eq_false, Bool.false_eq_true, eq_self, reduceCtorEq, zo0, zp0_0, zp0_1, zp0_2, zp0_4, zp0_5, zp0_6, zp0_7, zp0_8, zp0_9, zp0_10, zo1, zp1_0, zp1_5, zp1_6, zp1_9, zo16, zp16_0, zp16_5, zp16_6, zp16_9, zo31, zp31_0, zp31_5, zp31_6, zp31_9, zo46, zp46_0, zp46_1, zp46_2, zo79, zp79_0, zo83, zp83_0, zp83_1, zp83_2, zo87, zp87_0, zp87_1, zo121, zp121_0, zp121_1, zp121_2, zp121_4, zp121_5, zp121_6, zp121_7, zp121_8, zp121_16, zp121_17, zp121_18, zp121_21, zp121_23, zp121_24, zp121_25, zp121_26, zp121_27, zp121_28, zp121_29, zp121_30, zp121_31, zp121_32, zp121_33, zp121_34, zp79_2, zx2, zx13, zx14, zx15, zx17, zx28, zx29, zx30, zx32, zx43, zx44, zx45, zx47, zx78, zx80, zx84, zx85, zx86, zx88, zx89, zx90, zx99, zx120, zx122, zx123, zx124, zx125, zx126, zx127, zx128, zx129, zx130, zx131, zx132, zx133, zx134, zx135, zx136, zx137, zx138, zx139, zx140, zx141, zx142, zx143, zx144, zx145, zg2, zg17, zg32, zgo3, zgo18, zgo33, zl47, zlo, zlp, zlx, zs90, zso, zsp, zsx, zt99, zto, ztp1, ztp2, ztgo, ztso, ztsp, ztsx, zc0, zi0, zc1, zi1, zc2, zi2, zc3, zi3, zc4, zi4, zc5, zi5, e3, zle, bit1, hb, hlm]
          · have hne : (nI i = nI gl) = False := zne hig (by omega) (by omega)
            have hm1 : ((-1 : Int32) = nI gl) = False := eq_false (fun q => by have := nI_nm1 (t := gl) (by omega); rw [← q] at this; simp at this)
            simp (disch := omega) only [fxX7_mateOf_b11, fxX7_mateOf_b75, am_gd_t, am_lt_e, am_bd_s, bi_0, bi_bz, bz0, bz1, nz2, nz10, nz100, hp_gi, hp_si, ↓reduceIte, if_true, if_false, Bool.true_eq_false, Bool.false_eq_true, eq_self, reduceCtorEq, zo0, zp0_0, zp0_1, zp0_2, zp0_4, zp0_5, zp0_6, zp0_7, zp0_8, zp0_9, zp0_10, zo1, zp1_0, zp1_5, zp1_6, zp1_9, zo16, zp16_0, zp16_5, zp16_6, zp16_9, zo31, zp31_0, zp31_5, zp31_6, zp31_9, zo46, zp46_0, zp46_1, zp46_2, zo79, zp79_0, zo83, zp83_0, zp83_1, zp83_2, zo87, zp87_0, zp87_1, zo121, zp121_0, zp121_1, zp121_2, zp121_4, zp121_5, zp121_6, zp121_7, zp121_8, zp121_16, zp121_17, zp121_18, zp121_21, zp121_23, zp121_24, zp121_25, zp121_26, zp121_27, zp121_28, zp121_29, zp121_30, zp121_31, zp121_32, zp121_33, zp121_34, zp79_2, zx2, zx13, zx14, zx15, zx17, zx28, zx29, zx30, zx32, zx43, zx44, zx45, zx47, zx78, zx80, zx84, zx85, zx86, zx88, zx89, zx90, zx99, zx120, zx122, zx123, zx124, zx125, zx126, zx127, zx128, zx129, zx130, zx131, zx132, zx133, zx134, zx135, zx136, zx137, zx138, zx139, zx140, zx141, zx142, zx143, zx144, zx145, zg2, zg17, zg32, zgo3, zgo18, zgo33, zl47, zlo, zlp, zlx, zs90, zso, zsp, zsx, zt99, zto, ztp1, ztp2, ztgo, ztso, ztsp, ztsx, zc0, zi0, zc1, zi1, zc2, zi2, zc3, zi3, zc4, zi4, zc5, zi5, e3, zle, bit1, hb, hlm, hne, hm1, hig, q_clr, nI_1, hI]
        · rw [q] at hlm hI ⊢
          have hcy : cn (nI y) = y := cn_nI (by omega)
          have hm1 := nI_nm1 (t := y) (by omega)
          unfold rmS at hI ⊢
          rw [if_neg (nm1 (by omega)), hcy] at hI
          rw [if_neg (nm1 (by omega)), hcy]
          by_cases hig : i = gl
          · subst hig
            simp (disch := omega) only [fxX7_mateOf_b11, am_gd_t, am_lt_e, am_bd_s, bi_0, bi_bz, bz0, bz1, nz2, nz10, nz100, hp_gi, hp_si, ↓reduceIte, if_true, if_false, Bool.true_eq_false, Bool.false_eq_true, eq_self, reduceCtorEq, zo0, zp0_0, zp0_1, zp0_2, zp0_4, zp0_5, zp0_6, zp0_7, zp0_8, zp0_9, zp0_10, zo1, zp1_0, zp1_5, zp1_6, zp1_9, zo16, zp16_0, zp16_5, zp16_6, zp16_9, zo31, zp31_0, zp31_5, zp31_6, zp31_9, zo46, zp46_0, zp46_1, zp46_2, zo79, zp79_0, zo83, zp83_0, zp83_1, zp83_2, zo87, zp87_0, zp87_1, zo121, zp121_0, zp121_1, zp121_2, zp121_4, zp121_5, zp121_6, zp121_7, zp121_8, zp121_16, zp121_17, zp121_18, zp121_21, zp121_23, zp121_24, zp121_25, zp121_26, zp121_27, zp121_28, zp121_29, zp121_30, zp121_31, zp121_32, zp121_33, zp121_34, zp79_2, zx2, zx13, zx14, zx15, zx17, zx28, zx29, zx30, zx32, zx43, zx44, zx45, zx47, zx78, zx80, zx84, zx85, zx86, zx88, zx89, zx90, zx99, zx120, zx122, zx123, zx124, zx125, zx126, zx127, zx128, zx129, zx130, zx131, zx132, zx133, zx134, zx135, zx136, zx137, zx138, zx139, zx140, zx141, zx142, zx143, zx144, zx145, zg2, zg17, zg32, zgo3, zgo18, zgo33, zl47, zlo, zlp, zlx, zs90, zso, zsp, zsx, zt99, zto, ztp1, ztp2, ztgo, ztso, ztsp, ztsx, zc0, zi0, zc1, zi1, zc2, zi2, zc3, zi3, zc4, zi4, zc5, zi5, e3, zle, bit1, hb, hlm]
          · have hne : (nI i = nI gl) = False := zne hig (by omega) (by omega)
            by_cases hyg : y = gl
            · subst hyg
              simp (disch := omega) only [fxX7_mateOf_b11, am_gd_t, am_lt_e, am_bd_s, bi_0, bi_bz, bz0, bz1, nz2, nz10, nz100, hp_gi, hp_si, ↓reduceIte, if_true, if_false, Bool.true_eq_false, Bool.false_eq_true, eq_self, reduceCtorEq, zo0, zp0_0, zp0_1, zp0_2, zp0_4, zp0_5, zp0_6, zp0_7, zp0_8, zp0_9, zp0_10, zo1, zp1_0, zp1_5, zp1_6, zp1_9, zo16, zp16_0, zp16_5, zp16_6, zp16_9, zo31, zp31_0, zp31_5, zp31_6, zp31_9, zo46, zp46_0, zp46_1, zp46_2, zo79, zp79_0, zo83, zp83_0, zp83_1, zp83_2, zo87, zp87_0, zp87_1, zo121, zp121_0, zp121_1, zp121_2, zp121_4, zp121_5, zp121_6, zp121_7, zp121_8, zp121_16, zp121_17, zp121_18, zp121_21, zp121_23, zp121_24, zp121_25, zp121_26, zp121_27, zp121_28, zp121_29, zp121_30, zp121_31, zp121_32, zp121_33, zp121_34, zp79_2, zx2, zx13, zx14, zx15, zx17, zx28, zx29, zx30, zx32, zx43, zx44, zx45, zx47, zx78, zx80, zx84, zx85, zx86, zx88, zx89, zx90, zx99, zx120, zx122, zx123, zx124, zx125, zx126, zx127, zx128, zx129, zx130, zx131, zx132, zx133, zx134, zx135, zx136, zx137, zx138, zx139, zx140, zx141, zx142, zx143, zx144, zx145, zg2, zg17, zg32, zgo3, zgo18, zgo33, zl47, zlo, zlp, zlx, zs90, zso, zsp, zsx, zt99, zto, ztp1, ztp2, ztgo, ztso, ztsp, ztsx, zc0, zi0, zc1, zi1, zc2, zi2, zc3, zi3, zc4, zi4, zc5, zi5, e3, zle, bit1, hb, hlm, hne, hig]
            · have hne2 : (nI y = nI gl) = False := zne hyg (by omega) (by omega)
              simp (disch := omega) only [fxX7_mateOf_b11, fxX7_mateOf_b75, am_gd_t, am_lt_e, am_bd_s, bi_0, bi_bz, bz0, bz1, nz2, nz10, nz100, hp_gi, hp_si, ↓reduceIte, if_true, if_false, Bool.true_eq_false, Bool.false_eq_true, eq_self, reduceCtorEq, zo0, zp0_0, zp0_1, zp0_2, zp0_4, zp0_5, zp0_6, zp0_7, zp0_8, zp0_9, zp0_10, zo1, zp1_0, zp1_5, zp1_6, zp1_9, zo16, zp16_0, zp16_5, zp16_6, zp16_9, zo31, zp31_0, zp31_5, zp31_6, zp31_9, zo46, zp46_0, zp46_1, zp46_2, zo79, zp79_0, zo83, zp83_0, zp83_1, zp83_2, zo87, zp87_0, zp87_1, zo121, zp121_0, zp121_1, zp121_2, zp121_4, zp121_5, zp121_6, zp121_7, zp121_8, zp121_16, zp121_17, zp121_18, zp121_21, zp121_23, zp121_24, zp121_25, zp121_26, zp121_27, zp121_28, zp121_29, zp121_30, zp121_31, zp121_32, zp121_33, zp121_34, zp79_2, zx2, zx13, zx14, zx15, zx17, zx28, zx29, zx30, zx32, zx43, zx44, zx45, zx47, zx78, zx80, zx84, zx85, zx86, zx88, zx89, zx90, zx99, zx120, zx122, zx123, zx124, zx125, zx126, zx127, zx128, zx129, zx130, zx131, zx132, zx133, zx134, zx135, zx136, zx137, zx138, zx139, zx140, zx141, zx142, zx143, zx144, zx145, zg2, zg17, zg32, zgo3, zgo18, zgo33, zl47, zlo, zlp, zlx, zs90, zso, zsp, zsx, zt99, zto, ztp1, ztp2, ztgo, ztso, ztsp, ztsx, zc0, zi0, zc1, zi1, zc2, zi2, zc3, zi3, zc4, zi4, zc5, zi5, e3, zle, bit1, hb, hlm, hne, hne2, hig, hm1, q_clr, nI_1, hI]
  have := L n 0 am_F (2 ^ n - 1) (by omega) (by omega) (by unfold am_F; omega)
  simp (disch := omega) only [fxX7_mateOf, am_gd_t, am_lt_e, am_bd_s, bi_0, bi_bz, bz0, bz1, nz2, nz10, nz100, hp_gi, hp_si, ↓reduceIte, if_true, if_false, Bool.true_eq_false, Bool.false_eq_true, eq_self, reduceCtorEq, zo0, zp0_0, zp0_1, zp0_2, zp0_4, zp0_5, zp0_6, zp0_7, zp0_8, zp0_9, zp0_10, zo1, zp1_0, zp1_5, zp1_6, zp1_9, zo16, zp16_0, zp16_5, zp16_6, zp16_9, zo31, zp31_0, zp31_5, zp31_6, zp31_9, zo46, zp46_0, zp46_1, zp46_2, zo79, zp79_0, zo83, zp83_0, zp83_1, zp83_2, zo87, zp87_0, zp87_1, zo121, zp121_0, zp121_1, zp121_2, zp121_4, zp121_5, zp121_6, zp121_7, zp121_8, zp121_16, zp121_17, zp121_18, zp121_21, zp121_23, zp121_24, zp121_25, zp121_26, zp121_27, zp121_28, zp121_29, zp121_30, zp121_31, zp121_32, zp121_33, zp121_34, zp79_2, zx2, zx13, zx14, zx15, zx17, zx28, zx29, zx30, zx32, zx43, zx44, zx45, zx47, zx78, zx80, zx84, zx85, zx86, zx88, zx89, zx90, zx99, zx120, zx122, zx123, zx124, zx125, zx126, zx127, zx128, zx129, zx130, zx131, zx132, zx133, zx134, zx135, zx136, zx137, zx138, zx139, zx140, zx141, zx142, zx143, zx144, zx145, zg2, zg17, zg32, zgo3, zgo18, zgo33, zl47, zlo, zlp, zlx, zs90, zso, zsp, zsx, zt99, zto, ztp1, ztp2, ztgo, ztso, ztsp, ztsx, zc0, zi0, zc1, zi1, zc2, zi2, zc3, zi3, zc4, zi4, zc5, zi5, e3, q_shl, pow_m1]
  exact this
def told0S (x : Int32) : Int32 := if 0 ≤ x then x else -1000000005
theorem part_in {lp n e S gl : Nat} {M : Mem} {g : Nat → Int32} {f : Int32} (hn : n ≤ 10) (he : e < n) (hgl : gl < n) (hS : S < 2 ^ n) (hV : ∀ a b, a < n → b < n → a ≠ b → M 125 (10 * a + b) = pvS g a b) (k22 : Option Nat → Int32 → Int32 → Int32 → am_H → Option (Int32 × am_H)) : ∀ j fuel, e + j < n → j < fuel → fxX10_partner_b55 k22 fuel (some 121) (nI gl) (nI S) f (nI e) (nI (clr S e)) (lmS (pvS g) (M 126) e S (n - (e + j + 1)) (e + j + 1)) (nI (e + j)) (hp lp M) = k22 (some 121) (nI gl) (nI (rmS S e (lmS (pvS g) (M 126) e S (n - (e + 1)) (e + 1)))) (if e = gl then lmS (pvS g) (M 126) e S (n - (e + 1)) (e + 1) else if lmS (pvS g) (M 126) e S (n - (e + 1)) (e + 1) = nI gl then nI e else f) (hp lp M) := by
  have hS10 := n10 hn hS
  have hc := clr_le S e
  intro j
  induction j with
  | zero =>
    intro fuel hj hf
    obtain ⟨fuel, rfl⟩ : ∃ f, fuel = f + 1 := ⟨fuel - 1, by omega⟩
    simp only [Nat.add_zero]
    generalize hm : lmS (pvS g) (M 126) e S (n - (e + 1)) (e + 1) = m
    have hl : ((nI e) ≤ (nI e)) = True := eq_true (Int32.le_refl _)
    have heg : (nI e = nI gl) = (e = gl) := propext (nI_eq (by omega) (by omega))
    have hb : ∀ f', fxX10_partner_b176 k22 (some 121) (nI gl) (nI (clr S e)) m f' (hp lp M) = k22 (some 121) (nI gl) (nI (rmS S e m)) f' (hp lp M) := by
      intro f'
      rcases lm_c (V := pvS g) (b := M 126) (e := e) (S := S) (n - (e + 1)) (e + 1) with q | ⟨y, y1, y2, q, y4⟩
      · rw [hm] at q
        subst q
        unfold rmS
        rw [if_pos rfl]
        simp only [fxX10_partner_b176, fxX10_partner_b196, am_lt_e, m1ge, ↓reduceIte, if_true, if_false, Bool.true_eq_false, Bool.false_eq_true, eq_self, reduceCtorEq]
      · rw [hm] at q
        subst q
        have h0 : ((0 : Int32) ≤ nI y) = True := eq_true (nI_pos' (by omega))
        unfold rmS
        rw [if_neg (nm1 (by omega)), cn_nI (by omega)]
        simp (disch := omega) only [fxX10_partner_b176, fxX10_partner_b196, am_lt_e, h0, ↓reduceIte, if_true, if_false, Bool.true_eq_false, Bool.false_eq_true, eq_self, reduceCtorEq, q_clr]
    simp only [fxX10_partner_b55, hl, heg, ↓reduceIte, if_true, if_false, Bool.true_eq_false, Bool.false_eq_true, eq_self, reduceCtorEq, hb]
    by_cases h1 : e = gl
    · simp only [h1, ↓reduceIte, if_true, if_false, Bool.true_eq_false, Bool.false_eq_true, eq_self, reduceCtorEq]
    · by_cases h2 : m = nI gl <;> simp only [h1, h2, ↓reduceIte, if_true, if_false, Bool.true_eq_false, Bool.false_eq_true, eq_self, reduceCtorEq]
  | succ j ih =>
    intro fuel hj hf
    obtain ⟨fuel, rfl⟩ : ∃ f, fuel = f + 1 := ⟨fuel - 1, by omega⟩
    have hI := ih fuel (by omega) (by omega)
    have hgt : (nI (e + (j + 1)) ≤ nI e) = False := zle (by omega) (by omega)
    have ev := hV e (e + (j + 1)) he hj (by omega)
    have ebt : (clr S e).testBit (e + (j + 1)) = S.testBit (e + (j + 1)) := by
      rw [clr_tb hS10 (by omega)]
      have : decide (e = e + (j + 1)) = false := decide_eq_false (by omega)
      rw [this]; simp
    have c2 := clr_le (clr S e) (e + (j + 1))
    have hun : lmS (pvS g) (M 126) e S (n - (e + j + 1)) (e + j + 1) = if S.testBit (e + (j + 1)) = true ∧ ¬ pvS g e (e + (j + 1)) = -1 ∧ pvS g e (e + (j + 1)) + M 126 (clr (clr S e) (e + (j + 1))) = M 126 S then nI (e + (j + 1)) else lmS (pvS g) (M 126) e S (n - (e + (j + 1) + 1)) (e + (j + 1) + 1) := by
      rw [show n - (e + j + 1) = (n - (e + (j + 1) + 1)) + 1 by omega]
      rfl
    rw [hun] at hI
    have hdec : nI (e + (j + 1)) + (-1) = nI (e + j) := pk_m1 (e + j)
    generalize hW : lmS (pvS g) (M 126) e S (n - (e + (j + 1) + 1)) (e + (j + 1) + 1) = W at hI ⊢
    generalize hi : e + (j + 1) = i at *
    cases hb : S.testBit i with
    | false =>
      rw [hb] at ebt hI
      rw [if_neg (by simp)] at hI
      simp (disch := omega) only [fxX10_partner_b55, fxX10_partner_b93, fxX10_partner_b94, fxX10_partner_b143, fxX10_partner_b145, am_gd_t, am_lt_e, am_bd_s, bi_0, bi_bz, bz0, bz1, nz2, nz10, nz100, hp_gi, hp_si, ↓reduceIte, if_true, if_false, Bool.true_eq_false, Bool.false_eq_true, eq_self, reduceCtorEq, hgt, bit1, ebt, hdec]
      exact hI
    | true =>
      rw [hb] at ebt hI
      rcases pv_cases g e i with ⟨-, c1⟩ | ⟨-, c1, c3⟩
      · rw [c1] at ev hI
        rw [if_neg (by simp)] at hI
        simp (disch := omega) only [fxX10_partner_b55, fxX10_partner_b93, fxX10_partner_b94, fxX10_partner_b143, fxX10_partner_b145, am_gd_t, am_lt_e, am_bd_s, bi_0, bi_bz, bz0, bz1, nz2, nz10, nz100, hp_gi, hp_si, ↓reduceIte, if_true, if_false, Bool.true_eq_false, Bool.false_eq_true, eq_self, reduceCtorEq, zo0, zp0_0, zp0_1, zp0_2, zp0_4, zp0_5, zp0_6, zp0_7, zp0_8, zp0_9, zp0_10, zo1, zp1_0, zp1_5, zp1_6, zp1_9, zo16, zp16_0, zp16_5, zp16_6, zp16_9, zo31, zp31_0, zp31_5, zp31_6, zp31_9, zo46, zp46_0, zp46_1, zp46_2, zo79, zp79_0, zo83, zp83_0, zp83_1, zp83_2, zo87, zp87_0, zp87_1, zo121, zp121_0, zp121_1, zp121_2, zp121_4, zp121_5, zp121_6, zp121_7, zp121_8, zp121_16, zp121_17, zp121_18, zp121_21, zp121_23, zp121_24, zp121_25, zp121_26, zp121_27, zp121_28, zp121_29, zp121_30, zp121_31, zp121_32, zp121_33, zp121_34, zp79_2, zx2, zx13, zx14, zx15, zx17, zx28, zx29, zx30, zx32, zx43, zx44, zx45, zx47, zx78, zx80, zx84, zx85, zx86, zx88, zx89, zx90, zx99, zx120, zx122, zx123, zx124, zx125, zx126, zx127, zx128, zx129, zx130, zx131, zx132, zx133, zx134, zx135, zx136, zx137, zx138, zx139, zx140, zx141, zx142, zx143, zx144, zx145, zg2, zg17, zg32, zgo3, zgo18, zgo33, zl47, zlo, zlp, zlx, zs90, zso, zsp, zsx, zt99, zto, ztp1, ztp2, ztgo, ztso, ztsp, ztsx, zc0, zi0, zc1, zi1, zc2, zi2, zc3, zi3, zc4, zi4, zc5, zi5, zin, zcl, nI_1, Bool.and_self, Bool.true_and, Bool.and_true, ix10', hgt, bit1, ebt, ev, show ((-1 : Int32) < 0) = True from by decide, hdec]
        exact hI
      · rw [c1] at ev hI
        by_cases hq : nI (wG g e i) + M 126 (clr (clr S e) i) = M 126 S
        · rw [if_pos ⟨rfl, by rw [nI_nm1 (by omega)]; exact not_false, hq⟩] at hI
          simp (disch := omega) only [fxX10_partner_b55, fxX10_partner_b94, fxX10_partner_b145, am_gd_t, am_lt_e, am_bd_s, bi_0, bi_bz, bz0, bz1, nz2, nz10, nz100, hp_gi, hp_si, ↓reduceIte, if_true, if_false, Bool.true_eq_false, Bool.false_eq_true, eq_self, reduceCtorEq, zo0, zp0_0, zp0_1, zp0_2, zp0_4, zp0_5, zp0_6, zp0_7, zp0_8, zp0_9, zp0_10, zo1, zp1_0, zp1_5, zp1_6, zp1_9, zo16, zp16_0, zp16_5, zp16_6, zp16_9, zo31, zp31_0, zp31_5, zp31_6, zp31_9, zo46, zp46_0, zp46_1, zp46_2, zo79, zp79_0, zo83, zp83_0, zp83_1, zp83_2, zo87, zp87_0, zp87_1, zo121, zp121_0, zp121_1, zp121_2, zp121_4, zp121_5, zp121_6, zp121_7, zp121_8, zp121_16, zp121_17, zp121_18, zp121_21, zp121_23, zp121_24, zp121_25, zp121_26, zp121_27, zp121_28, zp121_29, zp121_30, zp121_31, zp121_32, zp121_33, zp121_34, zp79_2, zx2, zx13, zx14, zx15, zx17, zx28, zx29, zx30, zx32, zx43, zx44, zx45, zx47, zx78, zx80, zx84, zx85, zx86, zx88, zx89, zx90, zx99, zx120, zx122, zx123, zx124, zx125, zx126, zx127, zx128, zx129, zx130, zx131, zx132, zx133, zx134, zx135, zx136, zx137, zx138, zx139, zx140, zx141, zx142, zx143, zx144, zx145, zg2, zg17, zg32, zgo3, zgo18, zgo33, zl47, zlo, zlp, zlx, zs90, zso, zsp, zsx, zt99, zto, ztp1, ztp2, ztgo, ztso, ztsp, ztsx, zc0, zi0, zc1, zi1, zc2, zi2, zc3, zi3, zc4, zi4, zc5, zi5, zin, zcl, nI_1, Bool.and_self, Bool.true_and, Bool.and_true, ix10', hgt, bit1, ebt, ev, nlt0, one0, q_clr, hq, hdec]
          exact hI
        · rw [if_neg (fun q => hq q.2.2)] at hI
          simp (disch := omega) only [fxX10_partner_b55, fxX10_partner_b94, fxX10_partner_b143, fxX10_partner_b145, am_gd_t, am_lt_e, am_bd_s, bi_0, bi_bz, bz0, bz1, nz2, nz10, nz100, hp_gi, hp_si, ↓reduceIte, if_true, if_false, Bool.true_eq_false, Bool.false_eq_true, eq_self, reduceCtorEq, zo0, zp0_0, zp0_1, zp0_2, zp0_4, zp0_5, zp0_6, zp0_7, zp0_8, zp0_9, zp0_10, zo1, zp1_0, zp1_5, zp1_6, zp1_9, zo16, zp16_0, zp16_5, zp16_6, zp16_9, zo31, zp31_0, zp31_5, zp31_6, zp31_9, zo46, zp46_0, zp46_1, zp46_2, zo79, zp79_0, zo83, zp83_0, zp83_1, zp83_2, zo87, zp87_0, zp87_1, zo121, zp121_0, zp121_1, zp121_2, zp121_4, zp121_5, zp121_6, zp121_7, zp121_8, zp121_16, zp121_17, zp121_18, zp121_21, zp121_23, zp121_24, zp121_25, zp121_26, zp121_27, zp121_28, zp121_29, zp121_30, zp121_31, zp121_32, zp121_33, zp121_34, zp79_2, zx2, zx13, zx14, zx15, zx17, zx28, zx29, zx30, zx32, zx43, zx44, zx45, zx47, zx78, zx80, zx84, zx85, zx86, zx88, zx89, zx90, zx99, zx120, zx122, zx123, zx124, zx125, zx126, zx127, zx128, zx129, zx130, zx131, zx132, zx133, zx134, zx135, zx136, zx137, zx138, zx139, zx140, zx141, zx142, zx143, zx144, zx145, zg2, zg17, zg32, zgo3, zgo18, zgo33, zl47, zlo, zlp, zlx, zs90, zso, zsp, zsx, zt99, zto, ztp1, ztp2, ztgo, ztso, ztsp, ztsx, zc0, zi0, zc1, zi1, zc2, zi2, zc3, zi3, zc4, zi4, zc5, zi5, zin, zcl, nI_1, Bool.and_self, Bool.true_and, Bool.and_true, ix10', hgt, bit1, ebt, ev, nlt0, one0, q_clr, hq, hdec]
          exact hI
theorem part_go {lp n gl : Nat} {M : Mem} {g : Nat → Int32} (hn : n ≤ 10) (hgl : gl < n) (e1 : M 122 1 = nI n) (hV : ∀ a b, a < n → b < n → a ≠ b → M 125 (10 * a + b) = pvS g a b) : ∀ k i S fuel f, i + k = n → S < 2 ^ n → (∀ j, j < i → S.testBit j = false) → k < fuel → fxX10_partner_b22 fuel (some 121) (nI gl) (nI S) f (hp lp M) = some (told0S (if S.testBit gl = true then ptn (pvS g) (M 126) n gl k i S else f), hp lp M) := by
  intro k
  induction k with
  | zero =>
    intro i S fuel f hi hS hlo hf
    obtain ⟨fuel, rfl⟩ : ∃ f, fuel = f + 1 := ⟨fuel - 1, by omega⟩
    have hS0 : S = 0 := by
      rcases Nat.eq_zero_or_pos S with q | q
      · exact q
      · obtain ⟨h, o, h1, h2, h3⟩ := hi_ex hS (by omega)
        have := hlo h (by omega)
        rw [h2, hi_tb h3] at this
        cases this
    subst hS0
    have hr : fxX10_told0 f (hp lp M) = some (told0S f, hp lp M) := by
      unfold fxX10_told0 told0S
      split <;> rfl
    rw [if_neg (by simp)]
    simp only [fxX10_partner_b22, show (nI 0 = 0) = True from by decide, ↓reduceIte, if_true, if_false, Bool.true_eq_false, Bool.false_eq_true, eq_self, reduceCtorEq, hr, am_bd_s]
  | succ k ih =>
    intro i S fuel f hi hS hlo hf
    have hS10 := n10 hn hS
    cases hb : S.testBit i with
    | false =>
      rw [show ptn (pvS g) (M 126) n gl (k + 1) i S = ptn (pvS g) (M 126) n gl k (i + 1) S by simp only [ptn, hb, ↓reduceIte, if_true, if_false, Bool.true_eq_false, Bool.false_eq_true, eq_self, reduceCtorEq]]
      exact ih (i + 1) S fuel f (by omega) hS (fun j hj => by
        by_cases q : j = i
        · subst q; exact hb
        · exact hlo j (by omega)) (by omega)
    | true =>
      obtain ⟨fuel, rfl⟩ : ∃ f, fuel = f + 1 := ⟨fuel - 1, by omega⟩
      rw [show ptn (pvS g) (M 126) n gl (k + 1) i S = (if i = gl then lmS (pvS g) (M 126) i S (n - (i + 1)) (i + 1) else if lmS (pvS g) (M 126) i S (n - (i + 1)) (i + 1) = nI gl then nI i else ptn (pvS g) (M 126) n gl k (i + 1) (rmS S i (lmS (pvS g) (M 126) i S (n - (i + 1)) (i + 1)))) by simp only [ptn, hb, ↓reduceIte, if_true, if_false, Bool.true_eq_false, Bool.false_eq_true, eq_self, reduceCtorEq]]
      have hS0 : S ≠ 0 := by rintro rfl; simp at hb
      obtain ⟨e, he10, hee, hmin, hfo⟩ := q_firstOf hS10 hS0
      have hei : e = i := by
        have a1 := hmin i hb
        rcases Nat.lt_or_ge e i with q | q
        · rw [hlo e q] at hee; cases hee
        · omega
      subst hei
      have hpi := part_in (lp := lp) (f := f) hn (show e < n by omega) hgl hS hV (fxX10_partner_b22 fuel) (n - 1 - e) am_F (by omega) (by unfold am_F; omega)
      have hz : n - (e + (n - 1 - e) + 1) = 0 := by omega
      rw [hz, show e + (n - 1 - e) = n - 1 by omega] at hpi
      have hz2 : lmS (pvS g) (M 126) e S 0 (n - 1 + 1) = -1 := rfl
      rw [hz2] at hpi
      have hlt := rm_lt (V := pvS g) (b := M 126) hn hS (show e < n by omega)
      have hnn : nI n - 1 = nI (n - 1) := pk_sub (b := 1) (by omega)
      have hstep : fxX10_partner_b22 (fuel + 1) (some 121) (nI gl) (nI S) f (hp lp M) = fxX10_partner_b22 fuel (some 121) (nI gl) (nI (rmS S e (lmS (pvS g) (M 126) e S (n - (e + 1)) (e + 1)))) (if e = gl then lmS (pvS g) (M 126) e S (n - (e + 1)) (e + 1) else if lmS (pvS g) (M 126) e S (n - (e + 1)) (e + 1) = nI gl then nI e else f) (hp lp M) := by
        rw [← hpi]
        simp (disch := omega) only [fxX10_partner_b22, am_gd_t, am_lt_e, am_bd_s, bi_0, bi_bz, bz0, bz1, nz2, nz10, nz100, hp_gi, hp_si, ↓reduceIte, if_true, if_false, Bool.true_eq_false, Bool.false_eq_true, eq_self, reduceCtorEq, zo0, zp0_0, zp0_1, zp0_2, zp0_4, zp0_5, zp0_6, zp0_7, zp0_8, zp0_9, zp0_10, zo1, zp1_0, zp1_5, zp1_6, zp1_9, zo16, zp16_0, zp16_5, zp16_6, zp16_9, zo31, zp31_0, zp31_5, zp31_6, zp31_9, zo46, zp46_0, zp46_1, zp46_2, zo79, zp79_0, zo83, zp83_0, zp83_1, zp83_2, zo87, zp87_0, zp87_1, zo121, zp121_0, zp121_1, zp121_2, zp121_4, zp121_5, zp121_6, zp121_7, zp121_8, zp121_16, zp121_17, zp121_18, zp121_21, zp121_23, zp121_24, zp121_25, zp121_26, zp121_27, zp121_28, zp121_29, zp121_30, zp121_31, zp121_32, zp121_33, zp121_34, zp79_2, zx2, zx13, zx14, zx15, zx17, zx28, zx29, zx30, zx32, zx43, zx44, zx45, zx47, zx78, zx80, zx84, zx85, zx86, zx88, zx89, zx90, zx99, zx120, zx122, zx123, zx124, zx125, zx126, zx127, zx128, zx129, zx130, zx131, zx132, zx133, zx134, zx135, zx136, zx137, zx138, zx139, zx140, zx141, zx142, zx143, zx144, zx145, zg2, zg17, zg32, zgo3, zgo18, zgo33, zl47, zlo, zlp, zlx, zs90, zso, zsp, zsx, zt99, zto, ztp1, ztp2, ztgo, ztso, ztsp, ztsx, zc0, zi0, zc1, zi1, zc2, zi2, zc3, zi3, zc4, zi4, zc5, zi5, eq_false (nI_ne0 (show 0 < S by omega) (show S < 2 ^ 31 by omega)), hfo, q_clr, e1, hnn]
      rw [hstep]
      have rtb : ∀ j, (rmS S e (lmS (pvS g) (M 126) e S (n - (e + 1)) (e + 1))).testBit j = (S.testBit j && (!decide (e = j) && !decide (lmS (pvS g) (M 126) e S (n - (e + 1)) (e + 1) = nI j ∧ j < 10))) := by
        intro j
        unfold rmS
        rcases lm_c (V := pvS g) (b := M 126) (e := e) (S := S) (n - (e + 1)) (e + 1) with q | ⟨y, y1, y2, q, y4⟩
        · rw [q, if_pos rfl, clr_tb hS10 he10]
          have : decide ((-1 : Int32) = nI j ∧ j < 10) = false := decide_eq_false (fun h => by
            have := nI_nm1 (t := j) (by omega)
            rw [← h.1] at this; simp at this)
          rw [this]; simp
        · rw [q, if_neg (nm1 (by omega)), cn_nI (by omega), clr_tb (Nat.lt_of_le_of_lt (clr_le S e) hS10) (by omega), clr_tb hS10 he10]
          by_cases hj : j < 10
          · have : decide (nI y = nI j ∧ j < 10) = decide (y = j) := by
              apply decide_eq_decide.mpr
              constructor
              · intro h; exact (nI_eq (by omega) (by omega)).mp h.1
              · intro h; exact ⟨by rw [h], hj⟩
            rw [this]
            cases S.testBit j <;> cases decide (e = j) <;> cases decide (y = j) <;> rfl
          · have hsj : S.testBit j = false := by
              cases hx : S.testBit j with
              | false => rfl
              | true => exact absurd (tb_lt (n := 10) hS10 hx) hj
            rw [hsj]; simp
      rw [ih (e + 1) _ fuel _ (by omega) hlt (fun j hj => by
        rw [rtb]
        by_cases q : j = e
        · subst q; simp
        · rw [hlo j (by omega)]; rfl) (by omega)]
      congr 2
      generalize hm : lmS (pvS g) (M 126) e S (n - (e + 1)) (e + 1) = m at *
      have hrg := rtb gl
      by_cases h1 : e = gl
      · subst h1
        rw [hb] at hrg
        simp at hrg
        rw [hrg, if_neg (by simp), if_pos rfl, hb, if_pos rfl, if_pos rfl]
      · rw [if_neg h1, if_neg h1]
        by_cases h2 : m = nI gl
        · have hsg : S.testBit gl = true := by
            rcases lm_c (V := pvS g) (b := M 126) (e := e) (S := S) (n - (e + 1)) (e + 1) with q | ⟨y, y1, y2, q, y4⟩
            · rw [hm, h2] at q
              have := nI_nm1 (t := gl) (by omega)
              rw [q] at this; simp at this
            · rw [hm, h2] at q
              have := (nI_eq (by omega) (by omega)).mp q
              subst this
              exact y4
          have : (rmS S e m).testBit gl = false := by
            rw [hrg, decide_eq_true (show m = nI gl ∧ gl < 10 from ⟨h2, by omega⟩)]
            simp
          rw [this, if_neg (by simp), if_pos h2, if_pos h2, hsg, if_pos rfl]
        · have : (rmS S e m).testBit gl = S.testBit gl := by
            rw [hrg, decide_eq_false (show ¬ (m = nI gl ∧ gl < 10) from fun q => h2 q.1), decide_eq_false h1]
            simp
          rw [this, if_neg h2, if_neg h2]
theorem ptn_c {V : Nat → Nat → Int32} {b : Nat → Int32} {n gl : Nat} : ∀ k i S, i + k ≤ 10 → n ≤ 10 → ptn V b n gl k i S = -1 ∨ ∃ y, y < 100 ∧ ptn V b n gl k i S = nI y := by
  intro k
  induction k with
  | zero => intro i S _ _; exact Or.inl rfl
  | succ k ih =>
    intro i S hi hn
    unfold ptn
    split
    · split
      · rcases lm_c (V := V) (b := b) (e := i) (S := S) (n - (i + 1)) (i + 1) with q | ⟨y, y1, y2, q, y4⟩
        · exact Or.inl q
        · exact Or.inr ⟨y, by omega, q⟩
      · split
        · exact Or.inr ⟨i, by omega, rfl⟩
        · exact ih _ _ (by omega) hn
    · exact ih _ _ (by omega) hn
theorem lm_congr {V : Nat → Nat → Int32} {b b' : Nat → Int32} {e S n : Nat} (hS : S < 2 ^ n) (h : ∀ s, s < 2 ^ n → b' s = b s) : ∀ k i, lmS V b' e S k i = lmS V b e S k i := by
  intro k
  induction k with
  | zero => intro i; rfl
  | succ k ih =>
    intro i
    unfold lmS
    have c1 := clr_le S e
    have c2 := clr_le (clr S e) i
    rw [ih, h S hS, h (clr (clr S e) i) (by omega)]
theorem ptn_congr {V : Nat → Nat → Int32} {b b' : Nat → Int32} {n gl : Nat} (hn : n ≤ 10) (h : ∀ s, s < 2 ^ n → b' s = b s) : ∀ k i S, i + k = n → S < 2 ^ n → ptn V b' n gl k i S = ptn V b n gl k i S := by
  intro k
  induction k with
  | zero => intro i S _ _; rfl
  | succ k ih =>
    intro i S hi hS
    unfold ptn
    rw [lm_congr hS h, ih (i + 1) S (by omega) hS, ih (i + 1) _ (by omega) (rm_lt hn hS (by omega))]
theorem P_partner (a : Int32) : Pair (fxX9_partner (some 0) a) (fxX10_partner (some 121) a) := by
  intro lp M hI
  have hR := hI.1.1
  obtain ⟨hn, en⟩ := hR.2.2.2.2.1.n
  have hpos : 0 < 2 ^ cn (M 122 1) := Nat.two_pow_pos _
  have h1 := q_h1 hI
  rcases gl_cases hI a with ha | ⟨ha, i, hi, hi10, rfl⟩
  · refine ⟨-1000000001, lp, M, M, ?_, ?_, hI⟩
    · simp only [fxX9_partner, am_gd_t, am_lt_e, am_bd_s, bi_0, bi_bz, bz0, bz1, nz2, nz10, nz100, hp_gi, hp_si, ob_0, ob_1, pt00, pt10, ↓reduceIte, if_true, if_false, Bool.true_eq_false, Bool.false_eq_true, eq_self, reduceCtorEq, h1, ha]
    · simp only [fxX10_partner, am_gd_t, am_lt_e, am_bd_s, bi_0, bi_bz, bz0, bz1, nz2, nz10, nz100, hp_gi, hp_si, ob_M, pm0, pm0i, ↓reduceIte, if_true, if_false, Bool.true_eq_false, Bool.false_eq_true, eq_self, reduceCtorEq, q_isGlove, ha]
  · obtain ⟨M1, M2, M3, t1, t2, t3, t4, t5, t6, t7, t8, t9⟩ := tab_both hI
    have r2 : M2 122 = M 122 := t4 122 (by decide) (by decide) (by decide) (by decide)
    have en3 : M3 122 1 = nI (cn (M 122 1)) := by rw [t5 122 (by decide) (by decide) (by decide) (by decide), r2]; exact en
    have ha2 : iw (nI i) 0 (M2 122 1 - 1) = true := by rw [r2]; exact ha
    have hmt := q_mateOf (lp := lp) (M := M2) (g := M 122) hn hi (by rw [t8]; exact en) (fun a b ha hb hab => (t7 a b ha hb hab).1)
    have hpg := part_go (lp := lp) (M := M3) (g := M 122) hn hi en3 (fun a b ha hb hab => (t7 a b ha hb hab).2) (cn (M 122 1)) 0 (2 ^ cn (M 122 1) - 1) am_F (-1) (by omega) (by omega) (fun j hj => by omega) (by unfold am_F; omega)
    rw [all_tb, decide_eq_true hi, if_pos rfl, ptn_congr hn (fun s hs => t6 s hs) _ _ _ (by omega) (by omega)] at hpg
    refine ⟨told0S (ptn (pvS (M 122)) (M2 85) (cn (M 122 1)) i (cn (M 122 1)) 0 (2 ^ cn (M 122 1) - 1)), lp, M2, M3, ?_, ?_, t9⟩
    · rcases ptn_c (V := pvS (M 122)) (b := M2 85) (n := cn (M 122 1)) (gl := i) (cn (M 122 1)) 0 (2 ^ cn (M 122 1) - 1) (by omega) hn with q | ⟨y, hy, q⟩
      · rw [q] at hmt ⊢
        simp (disch := omega) only [fxX9_partner, am_gd_t, am_lt_e, am_bd_s, bi_0, bi_bz, bz0, bz1, nz2, nz10, nz100, hp_gi, hp_si, ob_0, ob_1, pt00, pt10, ↓reduceIte, if_true, if_false, Bool.true_eq_false, Bool.false_eq_true, eq_self, reduceCtorEq, zo0, zp0_0, zp0_1, zp0_2, zp0_4, zp0_5, zp0_6, zp0_7, zp0_8, zp0_9, zp0_10, zo1, zp1_0, zp1_5, zp1_6, zp1_9, zo16, zp16_0, zp16_5, zp16_6, zp16_9, zo31, zp31_0, zp31_5, zp31_6, zp31_9, zo46, zp46_0, zp46_1, zp46_2, zo79, zp79_0, zo83, zp83_0, zp83_1, zp83_2, zo87, zp87_0, zp87_1, zo121, zp121_0, zp121_1, zp121_2, zp121_4, zp121_5, zp121_6, zp121_7, zp121_8, zp121_16, zp121_17, zp121_18, zp121_21, zp121_23, zp121_24, zp121_25, zp121_26, zp121_27, zp121_28, zp121_29, zp121_30, zp121_31, zp121_32, zp121_33, zp121_34, zp79_2, zx2, zx13, zx14, zx15, zx17, zx28, zx29, zx30, zx32, zx43, zx44, zx45, zx47, zx78, zx80, zx84, zx85, zx86, zx88, zx89, zx90, zx99, zx120, zx122, zx123, zx124, zx125, zx126, zx127, zx128, zx129, zx130, zx131, zx132, zx133, zx134, zx135, zx136, zx137, zx138, zx139, zx140, zx141, zx142, zx143, zx144, zx145, zg2, zg17, zg32, zgo3, zgo18, zgo33, zl47, zlo, zlp, zlx, zs90, zso, zsp, zsx, zt99, zto, ztp1, ztp2, ztgo, ztso, ztsp, ztsx, zc0, zi0, zc1, zi1, zc2, zi2, zc3, zi3, zc4, zi4, zc5, zi5, h1, ha, t1, t2, hmt]
        rfl
      · rw [q] at hmt ⊢
        have h0 : (0 : Int32) ≤ nI y := nI_pos' (by omega)
        unfold told0S
        rw [if_pos h0]
        simp (disch := omega) only [fxX9_partner, am_gd_t, am_lt_e, am_bd_s, bi_0, bi_bz, bz0, bz1, nz2, nz10, nz100, hp_gi, hp_si, ob_0, ob_1, pt00, pt10, ↓reduceIte, if_true, if_false, Bool.true_eq_false, Bool.false_eq_true, eq_self, reduceCtorEq, zo0, zp0_0, zp0_1, zp0_2, zp0_4, zp0_5, zp0_6, zp0_7, zp0_8, zp0_9, zp0_10, zo1, zp1_0, zp1_5, zp1_6, zp1_9, zo16, zp16_0, zp16_5, zp16_6, zp16_9, zo31, zp31_0, zp31_5, zp31_6, zp31_9, zo46, zp46_0, zp46_1, zp46_2, zo79, zp79_0, zo83, zp83_0, zp83_1, zp83_2, zo87, zp87_0, zp87_1, zo121, zp121_0, zp121_1, zp121_2, zp121_4, zp121_5, zp121_6, zp121_7, zp121_8, zp121_16, zp121_17, zp121_18, zp121_21, zp121_23, zp121_24, zp121_25, zp121_26, zp121_27, zp121_28, zp121_29, zp121_30, zp121_31, zp121_32, zp121_33, zp121_34, zp79_2, zx2, zx13, zx14, zx15, zx17, zx28, zx29, zx30, zx32, zx43, zx44, zx45, zx47, zx78, zx80, zx84, zx85, zx86, zx88, zx89, zx90, zx99, zx120, zx122, zx123, zx124, zx125, zx126, zx127, zx128, zx129, zx130, zx131, zx132, zx133, zx134, zx135, zx136, zx137, zx138, zx139, zx140, zx141, zx142, zx143, zx144, zx145, zg2, zg17, zg32, zgo3, zgo18, zgo33, zl47, zlo, zlp, zlx, zs90, zso, zsp, zsx, zt99, zto, ztp1, ztp2, ztgo, ztso, ztsp, ztsx, zc0, zi0, zc1, zi1, zc2, zi2, zc3, zi3, zc4, zi4, zc5, zi5, h1, ha, t1, t2, hmt, nI_nm1]
    · simp (disch := omega) only [fxX10_partner, am_gd_t, am_lt_e, am_bd_s, bi_0, bi_bz, bz0, bz1, nz2, nz10, nz100, hp_gi, hp_si, ob_M, pm0, pm0i, ↓reduceIte, if_true, if_false, Bool.true_eq_false, Bool.false_eq_true, eq_self, reduceCtorEq, zo0, zp0_0, zp0_1, zp0_2, zp0_4, zp0_5, zp0_6, zp0_7, zp0_8, zp0_9, zp0_10, zo1, zp1_0, zp1_5, zp1_6, zp1_9, zo16, zp16_0, zp16_5, zp16_6, zp16_9, zo31, zp31_0, zp31_5, zp31_6, zp31_9, zo46, zp46_0, zp46_1, zp46_2, zo79, zp79_0, zo83, zp83_0, zp83_1, zp83_2, zo87, zp87_0, zp87_1, zo121, zp121_0, zp121_1, zp121_2, zp121_4, zp121_5, zp121_6, zp121_7, zp121_8, zp121_16, zp121_17, zp121_18, zp121_21, zp121_23, zp121_24, zp121_25, zp121_26, zp121_27, zp121_28, zp121_29, zp121_30, zp121_31, zp121_32, zp121_33, zp121_34, zp79_2, zx2, zx13, zx14, zx15, zx17, zx28, zx29, zx30, zx32, zx43, zx44, zx45, zx47, zx78, zx80, zx84, zx85, zx86, zx88, zx89, zx90, zx99, zx120, zx122, zx123, zx124, zx125, zx126, zx127, zx128, zx129, zx130, zx131, zx132, zx133, zx134, zx135, zx136, zx137, zx138, zx139, zx140, zx141, zx142, zx143, zx144, zx145, zg2, zg17, zg32, zgo3, zgo18, zgo33, zl47, zlo, zlp, zlx, zs90, zso, zsp, zsx, zt99, zto, ztp1, ztp2, ztgo, ztso, ztsp, ztsx, zc0, zi0, zc1, zi1, zc2, zi2, zc3, zi3, zc4, zi4, zc5, zi5, zin, zcl, nI_1, Bool.and_self, Bool.true_and, Bool.and_true, q_isGlove, ha2, t3, q_all en3 hn]
      exact hpg
