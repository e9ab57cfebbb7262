/-! ===== the class's table ===== -/
theorem ix10 (i j : Nat) : nI i * 10 + nI j = nI (10 * i + j) := by
  rw [show (10 : Int32) = nI 10 from rfl, pk_mul, nI_add, Nat.mul_comm]
theorem ix10' (i j : Nat) : 10 * nI i + nI j = nI (10 * i + j) := by
  rw [show (10 : Int32) = nI 10 from rfl, pk_mul, nI_add]
theorem pairS_comm (a b : Nat → Int32) : pairS a b = pairS b a := by
  unfold pairS
  rw [show decide (a 1 = b 1) = decide (b 1 = a 1) from decide_eq_decide.mpr eq_comm]
  cases decide (b 1 = a 1) <;> cases decide (a 0 = 4) <;> cases decide (b 0 = 4) <;> cases decide (a 5 = 0) <;> cases decide (b 5 = 0) <;> cases suitS a b <;> cases suitS b a <;> rfl
theorem mnS_comm (a b : Int32) : mnS a b = mnS b a := by
  unfold mnS
  by_cases h1 : b ≤ a <;> by_cases h2 : a ≤ b
  · rw [if_pos h1, if_pos h2]; exact Int32.le_antisymm h1 h2
  · rw [if_pos h1, if_neg h2]
  · rw [if_neg h1, if_pos h2]
  · exact absurd (Int32.le_of_lt (Int32.not_le.mp h1)) h2
theorem mxS_comm (a b : Int32) : mxS a b = mxS b a := by
  unfold mxS
  by_cases h1 : b ≤ a <;> by_cases h2 : a ≤ b
  · rw [if_pos h1, if_pos h2]; exact Int32.le_antisymm h2 h1
  · rw [if_pos h1, if_neg h2]
  · rw [if_neg h1, if_pos h2]
  · exact absurd (Int32.le_of_lt (Int32.not_le.mp h1)) h2
theorem vlS_comm (g a b : Nat → Int32) : vlS g a b = vlS g b a := by
  unfold vlS
  rw [Int32.add_comm (a 3), Int32.add_comm (a 4), mnS_comm, mxS_comm]
theorem pvS_comm (g : Nat → Int32) (i j : Nat) : pvS g i j = pvS g j i := by
  unfold pvS
  rw [pairS_comm, vlS_comm]
def pG (g : Nat → Int32) (i j : Nat) : Bool := pairS (mg g i) (mg g j)
def wG (g : Nat → Int32) (i j : Nat) : Nat := cn (vlS g (mg g i) (mg g j))
theorem pG_comm (g : Nat → Int32) (i j : Nat) : pG g i j = pG g j i := pairS_comm _ _
theorem wG_comm (g : Nat → Int32) (i j : Nat) : wG g i j = wG g j i := by unfold wG; rw [vlS_comm]
theorem pv_cases (g : Nat → Int32) (i j : Nat) : (pG g i j = false ∧ pvS g i j = -1) ∨ (pG g i j = true ∧ pvS g i j = nI (wG g i j) ∧ wG g i j ≤ 999) := by
  rcases pvS_cases g i j with ⟨h1, h2⟩ | ⟨h1, v, h2, h3, h4⟩
  · exact Or.inl ⟨h1, h2⟩
  · have : wG g i j = v := by unfold wG; rw [h4, cn_nI (by omega)]
    exact Or.inr ⟨h1, by rw [this]; exact h3, by rw [this]; exact h2⟩
theorem wG_le (g : Nat → Int32) (i j : Nat) : wG g i j ≤ 999 := by
  unfold wG
  obtain ⟨v, h1, h2⟩ := vlS_nI g (mg g i) (mg g j)
  rw [h2, cn_nI (by omega)]; exact h1
theorem mmax_nI {a b : Nat} (ha : a < 2147483648) (hb : b < 2147483648) : am_mmax (nI a) (nI b) = nI (max a b) := by
  rw [mmax_e]
  unfold mxS
  by_cases h : b ≤ a
  · rw [if_pos (nI_le h ha), Nat.max_eq_left h]
  · rw [if_neg (nI_ge (by omega) hb), Nat.max_eq_right (by omega)]
/-- values that stand already -/
def Wg (g : Nat → Int32) (n : Nat) (r : Nat → Int32) (i j : Nat) : Prop := ∀ a b, a < b → b < n → (a < i ∨ (a = i ∧ b < j)) → r (10 * a + b) = pvS g a b ∧ r (10 * b + a) = pvS g a b
theorem Wg_up {g r : Nat → Int32} {n i j : Nat} (hn : n ≤ 10) (hij : i < j) (hj : j < n) (h : Wg g n r i j) : Wg g n (up1 (up1 r (10 * i + j) (pvS g i j)) (10 * j + i) (pvS g i j)) i (j + 1) := by
  intro a b hab hb hor
  by_cases e : a = i ∧ b = j
  · obtain ⟨rfl, rfl⟩ := e
    rw [up1_ne (by omega), up1_eq, up1_eq]
    exact ⟨rfl, rfl⟩
  · rw [up1_ne (by omega), up1_ne (by omega), up1_ne (by omega), up1_ne (by omega)]
    exact h a b hab hb (by omega)
theorem weigh_in {lp gb n i : Nat} {g : Nat → Int32} (hg : isGu gb) (hn : cn (g 1) = n) (hn10 : n ≤ 10) (hi : i < n) (k10 : Option Nat → Option Nat → Option Nat → Int32 → am_H → Option (Unit × am_H)) : ∀ k j fuel (M : Mem), RC M gb g → M 83 3 = nI n → i < j → j + k = n → k < fuel → Wg g n (M 84) i j → ∃ M', fxX7_weigh_b23 k10 fuel (some 83) (some gb) (some 46) (nI i) (nI j) (hp lp M) = k10 (some 83) (some gb) (some 46) (nI (i + 1)) (hp lp M') ∧ Wg g n (M' 84) i n ∧ ∀ z, z ≠ 78 → z ≠ 84 → M' z = M z := by
  have eb : gb = 1 ∨ gb = 16 ∨ gb = 31 := hg
  intro k
  induction k with
  | zero =>
    intro j fuel M hR e3 hij hj hf hW
    obtain ⟨fuel, rfl⟩ : ∃ f, fuel = f + 1 := ⟨fuel - 1, by omega⟩
    obtain rfl : j = n := by omega
    refine ⟨M, ?_, hW, fun _ _ _ => rfl⟩
    simp (disch := omega) only [fxX7_weigh_b23, am_gd_t, am_lt_e, am_bd_s, bi_0, bi_bz, bz0, bz1, nz2, nz10, nz100, hp_gi, hp_si, ↓reduceIte, if_true, if_false, Bool.true_eq_false, Bool.false_eq_true, eq_self, reduceCtorEq, zo0, zp0_0, zp0_1, zp0_2, zp0_4, zp0_5, zp0_6, zp0_7, zp0_8, zp0_9, zp0_10, zo1, zp1_0, zp1_5, zp1_6, zp1_9, zo16, zp16_0, zp16_5, zp16_6, zp16_9, zo31, zp31_0, zp31_5, zp31_6, zp31_9, zo46, zp46_0, zp46_1, zp46_2, zo79, zp79_0, zo83, zp83_0, zp83_1, zp83_2, zo87, zp87_0, zp87_1, zo121, zp121_0, zp121_1, zp121_2, zp121_4, zp121_5, zp121_6, zp121_7, zp121_8, zp121_16, zp121_17, zp121_18, zp121_21, zp121_23, zp121_24, zp121_25, zp121_26, zp121_27, zp121_28, zp121_29, zp121_30, zp121_31, zp121_32, zp121_33, zp121_34, zp79_2, zx2, zx13, zx14, zx15, zx17, zx28, zx29, zx30, zx32, zx43, zx44, zx45, zx47, zx78, zx80, zx84, zx85, zx86, zx88, zx89, zx90, zx99, zx120, zx122, zx123, zx124, zx125, zx126, zx127, zx128, zx129, zx130, zx131, zx132, zx133, zx134, zx135, zx136, zx137, zx138, zx139, zx140, zx141, zx142, zx143, zx144, zx145, zg2, zg17, zg32, zgo3, zgo18, zgo33, zl47, zlo, zlp, zlx, zs90, zso, zsp, zsx, zt99, zto, ztp1, ztp2, ztgo, ztso, ztsp, ztsx, zc0, zi0, zc1, zi1, zc2, zi2, zc3, zi3, zc4, zi4, zc5, zi5, e3, zle', nI_1]
  | succ k ih =>
    intro j fuel M hR e3 hij hj hf hW
    obtain ⟨fuel, rfl⟩ : ∃ f, fuel = f + 1 := ⟨fuel - 1, by omega⟩
    obtain ⟨M1, p1, p2⟩ := q_pairValue (lp := lp) hg hR (show i < cn (g 1) by omega) (show j < cn (g 1) by omega)
    generalize hM2 : am_up (am_up M1 84 (10 * i + j) (pvS g i j)) 84 (10 * j + i) (pvS g i j) = M2
    have r2 : ∀ z, z ≠ 78 → z ≠ 84 → M2 z = M z := fun z z1 z2 => by rw [← hM2, am_up_ne z2, am_up_ne z2, p2 z z1]
    have w2 : M2 84 = up1 (up1 (M 84) (10 * i + j) (pvS g i j)) (10 * j + i) (pvS g i j) := by rw [← hM2, up_row, up_row, p2 84 (by decide)]
    obtain ⟨M', q1, q2, q3⟩ := ih (j + 1) fuel M2 (RC_congr (fun z z1 z2 => r2 z (by omega) (by omega)) (fun z z1 z2 => r2 z (by omega) (by omega)) hR) (by rw [r2 83 (by decide) (by decide)]; exact e3) (by omega) (by omega) (by omega) (by rw [w2]; exact Wg_up hn10 hij (by omega) hW)
    refine ⟨M', ?_, q2, fun z z1 z2 => by rw [q3 z z1 z2, r2 z z1 z2]⟩
    simp (disch := omega) only [fxX7_weigh_b23, am_gd_t, am_lt_e, am_bd_s, bi_0, bi_bz, bz0, bz1, nz2, nz10, nz100, hp_gi, hp_si, ↓reduceIte, if_true, if_false, Bool.true_eq_false, Bool.false_eq_true, eq_self, reduceCtorEq, zo0, zp0_0, zp0_1, zp0_2, zp0_4, zp0_5, zp0_6, zp0_7, zp0_8, zp0_9, zp0_10, zo1, zp1_0, zp1_5, zp1_6, zp1_9, zo16, zp16_0, zp16_5, zp16_6, zp16_9, zo31, zp31_0, zp31_5, zp31_6, zp31_9, zo46, zp46_0, zp46_1, zp46_2, zo79, zp79_0, zo83, zp83_0, zp83_1, zp83_2, zo87, zp87_0, zp87_1, zo121, zp121_0, zp121_1, zp121_2, zp121_4, zp121_5, zp121_6, zp121_7, zp121_8, zp121_16, zp121_17, zp121_18, zp121_21, zp121_23, zp121_24, zp121_25, zp121_26, zp121_27, zp121_28, zp121_29, zp121_30, zp121_31, zp121_32, zp121_33, zp121_34, zp79_2, zx2, zx13, zx14, zx15, zx17, zx28, zx29, zx30, zx32, zx43, zx44, zx45, zx47, zx78, zx80, zx84, zx85, zx86, zx88, zx89, zx90, zx99, zx120, zx122, zx123, zx124, zx125, zx126, zx127, zx128, zx129, zx130, zx131, zx132, zx133, zx134, zx135, zx136, zx137, zx138, zx139, zx140, zx141, zx142, zx143, zx144, zx145, zg2, zg17, zg32, zgo3, zgo18, zgo33, zl47, zlo, zlp, zlx, zs90, zso, zsp, zsx, zt99, zto, ztp1, ztp2, ztgo, ztso, ztsp, ztsx, zc0, zi0, zc1, zi1, zc2, zi2, zc3, zi3, zc4, zi4, zc5, zi5, zin, zcl, nI_1, Bool.and_self, Bool.true_and, Bool.and_true, ob_gu hg, e3, zle, p1, ix10, hM2]
    exact q1
theorem q_weigh {lp gb : Nat} {M : Mem} {g : Nat → Int32} (hg : isGu gb) (hR : RC M gb g) : ∃ M', fxX7_weigh (some 83) (some gb) (some 46) (hp lp M) = some ((), hp lp M') ∧ (∀ a b, a < cn (g 1) → b < cn (g 1) → a ≠ b → M' 84 (10 * a + b) = pvS g a b) ∧ M' 83 3 = g 1 ∧ ∀ z, z ≠ 78 → z ≠ 83 → z ≠ 84 → M' z = M z := by
  have eb : gb = 1 ∨ gb = 16 ∨ gb = 31 := hg
  obtain ⟨hn, en⟩ := hR.2.2.2.2.1.n
  generalize hnn : cn (g 1) = n at hn en
  have L : ∀ k i fuel (M : Mem), RC M gb g → M 83 3 = nI n → i + k = n → k < fuel → Wg g n (M 84) i (i + 1) → ∃ M', fxX7_weigh_b10 fuel (some 83) (some gb) (some 46) (nI i) (hp lp M) = some ((), hp lp M') ∧ Wg g n (M' 84) n (n + 1) ∧ ∀ z, z ≠ 78 → z ≠ 84 → M' z = M z := by
    intro k
    induction k with
    | zero =>
      intro i fuel M hR e3 hi hf hW
      obtain ⟨fuel, rfl⟩ : ∃ f, fuel = f + 1 := ⟨fuel - 1, by omega⟩
      obtain rfl : i = n := by omega
      refine ⟨M, ?_, hW, fun _ _ _ => rfl⟩
      simp (disch := omega) only [fxX7_weigh_b10, am_gd_t, am_lt_e, am_bd_s, bi_0, bi_bz, bz0, bz1, nz2, nz10, nz100, hp_gi, hp_si, ↓reduceIte, if_true, if_false, Bool.true_eq_false, Bool.false_eq_true, eq_self, reduceCtorEq, zo0, zp0_0, zp0_1, zp0_2, zp0_4, zp0_5, zp0_6, zp0_7, zp0_8, zp0_9, zp0_10, zo1, zp1_0, zp1_5, zp1_6, zp1_9, zo16, zp16_0, zp16_5, zp16_6, zp16_9, zo31, zp31_0, zp31_5, zp31_6, zp31_9, zo46, zp46_0, zp46_1, zp46_2, zo79, zp79_0, zo83, zp83_0, zp83_1, zp83_2, zo87, zp87_0, zp87_1, zo121, zp121_0, zp121_1, zp121_2, zp121_4, zp121_5, zp121_6, zp121_7, zp121_8, zp121_16, zp121_17, zp121_18, zp121_21, zp121_23, zp121_24, zp121_25, zp121_26, zp121_27, zp121_28, zp121_29, zp121_30, zp121_31, zp121_32, zp121_33, zp121_34, zp79_2, zx2, zx13, zx14, zx15, zx17, zx28, zx29, zx30, zx32, zx43, zx44, zx45, zx47, zx78, zx80, zx84, zx85, zx86, zx88, zx89, zx90, zx99, zx120, zx122, zx123, zx124, zx125, zx126, zx127, zx128, zx129, zx130, zx131, zx132, zx133, zx134, zx135, zx136, zx137, zx138, zx139, zx140, zx141, zx142, zx143, zx144, zx145, zg2, zg17, zg32, zgo3, zgo18, zgo33, zl47, zlo, zlp, zlx, zs90, zso, zsp, zsx, zt99, zto, ztp1, ztp2, ztgo, ztso, ztsp, ztsx, zc0, zi0, zc1, zi1, zc2, zi2, zc3, zi3, zc4, zi4, zc5, zi5, e3, zle']
    | succ k ih =>
      intro i fuel M hR e3 hi hf hW
      obtain ⟨fuel, rfl⟩ : ∃ f, fuel = f + 1 := ⟨fuel - 1, by omega⟩
      obtain ⟨M1, p1, p2, p3⟩ := weigh_in (lp := lp) hg hnn hn (show i < n by omega) (fxX7_weigh_b10 fuel) (n - (i + 1)) (i + 1) am_F M hR e3 (by omega) (by omega) (by unfold am_F; omega) hW
      obtain ⟨M', q1, q2, q3⟩ := ih (i + 1) fuel M1 (RC_congr (fun z z1 z2 => p3 z (by omega) (by omega)) (fun z z1 z2 => p3 z (by omega) (by omega)) hR) (by rw [p3 83 (by decide) (by decide)]; exact e3) (by omega) (by omega) (fun a b hab hb hor => p2 a b hab hb (by omega))
      refine ⟨M', ?_, q2, fun z z1 z2 => by rw [q3 z z1 z2, p3 z z1 z2]⟩
      simp (disch := omega) only [fxX7_weigh_b10, am_gd_t, am_lt_e, am_bd_s, bi_0, bi_bz, bz0, bz1, nz2, nz10, nz100, hp_gi, hp_si, ↓reduceIte, if_true, if_false, Bool.true_eq_false, Bool.false_eq_true, eq_self, reduceCtorEq, zo0, zp0_0, zp0_1, zp0_2, zp0_4, zp0_5, zp0_6, zp0_7, zp0_8, zp0_9, zp0_10, zo1, zp1_0, zp1_5, zp1_6, zp1_9, zo16, zp16_0, zp16_5, zp16_6, zp16_9, zo31, zp31_0, zp31_5, zp31_6, zp31_9, zo46, zp46_0, zp46_1, zp46_2, zo79, zp79_0, zo83, zp83_0, zp83_1, zp83_2, zo87, zp87_0, zp87_1, zo121, zp121_0, zp121_1, zp121_2, zp121_4, zp121_5, zp121_6, zp121_7, zp121_8, zp121_16, zp121_17, zp121_18, zp121_21, zp121_23, zp121_24, zp121_25, zp121_26, zp121_27, zp121_28, zp121_29, zp121_30, zp121_31, zp121_32, zp121_33, zp121_34, zp79_2, zx2, zx13, zx14, zx15, zx17, zx28, zx29, zx30, zx32, zx43, zx44, zx45, zx47, zx78, zx80, zx84, zx85, zx86, zx88, zx89, zx90, zx99, zx120, zx122, zx123, zx124, zx125, zx126, zx127, zx128, zx129, zx130, zx131, zx132, zx133, zx134, zx135, zx136, zx137, zx138, zx139, zx140, zx141, zx142, zx143, zx144, zx145, zg2, zg17, zg32, zgo3, zgo18, zgo33, zl47, zlo, zlp, zlx, zs90, zso, zsp, zsx, zt99, zto, ztp1, ztp2, ztgo, ztso, ztsp, ztsx, zc0, zi0, zc1, zi1, zc2, zi2, zc3, zi3, zc4, zi4, zc5, zi5, e3, zle, nI_1]
      rw [p1]
      exact q1
  have r0 : ∀ z, z ≠ 83 → am_up M 83 3 (M gb 1) z = M z := fun z hz => am_up_ne hz
  obtain ⟨M', q1, q2, q3⟩ := L n 0 am_F (am_up M 83 3 (M gb 1)) (RC_congr (fun z z1 z2 => r0 z (by omega)) (fun z z1 z2 => r0 z (by omega)) hR) (by rw [up_eq, hR.1.2.1]; exact en) (by omega) (by unfold am_F; omega) (fun a b hab hb hor => by omega)
  refine ⟨M', ?_, fun a b ha hb hab => ?_, by rw [q3 83 (by decide) (by decide), up_eq, hR.1.2.1], fun z z1 z2 z3 => by rw [q3 z z1 z3, r0 z z2]⟩
  · simp only [fxX7_weigh, am_gd_t, am_lt_e, am_bd_s, bi_0, bi_bz, bz0, bz1, nz2, nz10, nz100, hp_gi, hp_si, ↓reduceIte, if_true, if_false, Bool.true_eq_false, Bool.false_eq_true, eq_self, reduceCtorEq, zo0, zp0_0, zp0_1, zp0_2, zp0_4, zp0_5, zp0_6, zp0_7, zp0_8, zp0_9, zp0_10, zo1, zp1_0, zp1_5, zp1_6, zp1_9, zo16, zp16_0, zp16_5, zp16_6, zp16_9, zo31, zp31_0, zp31_5, zp31_6, zp31_9, zo46, zp46_0, zp46_1, zp46_2, zo79, zp79_0, zo83, zp83_0, zp83_1, zp83_2, zo87, zp87_0, zp87_1, zo121, zp121_0, zp121_1, zp121_2, zp121_4, zp121_5, zp121_6, zp121_7, zp121_8, zp121_16, zp121_17, zp121_18, zp121_21, zp121_23, zp121_24, zp121_25, zp121_26, zp121_27, zp121_28, zp121_29, zp121_30, zp121_31, zp121_32, zp121_33, zp121_34, zp79_2, zx2, zx13, zx14, zx15, zx17, zx28, zx29, zx30, zx32, zx43, zx44, zx45, zx47, zx78, zx80, zx84, zx85, zx86, zx88, zx89, zx90, zx99, zx120, zx122, zx123, zx124, zx125, zx126, zx127, zx128, zx129, zx130, zx131, zx132, zx133, zx134, zx135, zx136, zx137, zx138, zx139, zx140, zx141, zx142, zx143, zx144, zx145, zg2, zg17, zg32, zgo3, zgo18, zgo33, zl47, zlo, zlp, zlx, zs90, zso, zsp, zsx, zt99, zto, ztp1, ztp2, ztgo, ztso, ztsp, ztsx, zc0, zi0, zc1, zi1, zc2, zi2, zc3, zi3, zc4, zi4, zc5, zi5, ob_gu hg]
    exact q1
  · rcases Nat.lt_or_gt_of_ne hab with q | q
    · exact (q2 a b q (by omega) (by omega)).1
    · rw [pvS_comm]; exact (q2 b a q (by omega) (by omega)).2
/-- the best values that stand already, by the highest glove -/
def Tb (p : Nat → Nat → Bool) (w : Nat → Nat → Nat) (b : Nat → Int32) (k : Nat) : Prop := ∀ S, S < k → ∃ v, v ≤ 1000 * S ∧ b S = nI v ∧ ∀ h o, S = 2 ^ h + o → o < 2 ^ h → v = mx p w (fun s => cn (b s)) h o h 0 (cn (b o))
theorem Tb_up {p : Nat → Nat → Bool} {w : Nat → Nat → Nat} {b : Nat → Int32} {k v : Nat} (h : Tb p w b k) (hv : v ≤ 1000 * k) (he : ∀ h o, k = 2 ^ h + o → o < 2 ^ h → v = mx p w (fun s => cn (b s)) h o h 0 (cn (b o))) : Tb p w (up1 b k (nI v)) (k + 1) := by
  intro S hS
  by_cases e : S = k
  · subst e
    refine ⟨v, hv, up1_eq _ _ _, fun h o h1 h2 => ?_⟩
    have h3 : 0 < 2 ^ h := Nat.two_pow_pos h
    rw [up1_ne (by omega), mx_congr (B := fun s => cn (b s)) (fun s hs => by rw [up1_ne (by omega)])]
    exact he h o h1 h2
  · obtain ⟨u, h1, h2, h3⟩ := h S (by omega)
    refine ⟨u, h1, by rw [up1_ne e]; exact h2, fun h o q1 q2 => ?_⟩
    have q3 : 0 < 2 ^ h := Nat.two_pow_pos h
    rw [up1_ne (by omega), mx_congr (B := fun s => cn (b s)) (fun s hs => by rw [up1_ne (by omega)])]
    exact h3 h o q1 q2
theorem Tb_v {p : Nat → Nat → Bool} {w : Nat → Nat → Nat} {b : Nat → Int32} {k S : Nat} (h : Tb p w b k) (hS : S < k) (hS2 : S < 1024) : b S = nI (cn (b S)) ∧ cn (b S) ≤ 1000 * S := by
  obtain ⟨u, h1, h2, -⟩ := h S hS
  rw [h2, cn_nI (by omega)]
  exact ⟨rfl, h1⟩
theorem pow9 {h : Nat} (hh : h < 10) : 2 ^ h ≤ 512 := by
  have := (Nat.pow_le_pow_right (by decide) (show h ≤ 9 by omega) : 2 ^ h ≤ 2 ^ 9)
  omega
theorem q_bestWith {lp n h o : Nat} {M : Mem} {g : Nat → Int32} (hn : n ≤ 10) (hh : h < n) (ho : o < 2 ^ h) (hV : ∀ a b, a < n → b < n → a ≠ b → M 84 (10 * a + b) = pvS g a b) (hT : Tb (pG g) (wG g) (M 85) (2 ^ h + o)) : fxX7_bestWith (some 83) (nI h) (nI o) (hp lp M) = some (nI (mx (pG g) (wG g) (fun s => cn (M 85 s)) h o h 0 (cn (M 85 o))), hp lp M) := by
  have h9 := pow9 (show h < 10 by omega)
  have hpos : 0 < 2 ^ h := Nat.two_pow_pos h
  have L : ∀ k i fuel acc, i + k = h → k < fuel → acc ≤ 2000000 → fxX7_bestWith_b10 fuel (some 83) (nI h) (nI o) (nI acc) (nI i) (hp lp M) = some (nI (mx (pG g) (wG g) (fun s => cn (M 85 s)) h o k i acc), hp lp M) := by
    intro k
    induction k with
    | zero =>
      intro i fuel acc hi hf ha
      obtain ⟨fuel, rfl⟩ : ∃ f, fuel = f + 1 := ⟨fuel - 1, by omega⟩
      obtain rfl : i = h := by omega
      simp (disch := omega) only [fxX7_bestWith_b10, ↓reduceIte, if_true, if_false, Bool.true_eq_false, Bool.false_eq_true, eq_self, reduceCtorEq, zle', mx]
    | succ k ih =>
      intro i fuel acc hi hf ha
      obtain ⟨fuel, rfl⟩ : ∃ f, fuel = f + 1 := ⟨fuel - 1, by omega⟩
      have ev := hV h i hh (by omega) (by omega)
      unfold mx
      cases hb : o.testBit i with
      | false =>
        have := ih (i + 1) fuel acc (by omega) (by omega) ha
        simp (disch := omega) only [fxX7_bestWith_b10, fxX7_bestWith_b67, am_gd_t, am_lt_e, am_bd_s, bi_0, bi_bz, bz0, bz1, nz2, nz10, nz100, hp_gi, hp_si, ↓reduceIte, if_true, if_false, Bool.true_eq_false, Bool.false_eq_true, eq_self, reduceCtorEq, zo0, zp0_0, zp0_1, zp0_2, zp0_4, zp0_5, zp0_6, zp0_7, zp0_8, zp0_9, zp0_10, zo1, zp1_0, zp1_5, zp1_6, zp1_9, zo16, zp16_0, zp16_5, zp16_6, zp16_9, zo31, zp31_0, zp31_5, zp31_6, zp31_9, zo46, zp46_0, zp46_1, zp46_2, zo79, zp79_0, zo83, zp83_0, zp83_1, zp83_2, zo87, zp87_0, zp87_1, zo121, zp121_0, zp121_1, zp121_2, zp121_4, zp121_5, zp121_6, zp121_7, zp121_8, zp121_16, zp121_17, zp121_18, zp121_21, zp121_23, zp121_24, zp121_25, zp121_26, zp121_27, zp121_28, zp121_29, zp121_30, zp121_31, zp121_32, zp121_33, zp121_34, zp79_2, zx2, zx13, zx14, zx15, zx17, zx28, zx29, zx30, zx32, zx43, zx44, zx45, zx47, zx78, zx80, zx84, zx85, zx86, zx88, zx89, zx90, zx99, zx120, zx122, zx123, zx124, zx125, zx126, zx127, zx128, zx129, zx130, zx131, zx132, zx133, zx134, zx135, zx136, zx137, zx138, zx139, zx140, zx141, zx142, zx143, zx144, zx145, zg2, zg17, zg32, zgo3, zgo18, zgo33, zl47, zlo, zlp, zlx, zs90, zso, zsp, zsx, zt99, zto, ztp1, ztp2, ztgo, ztso, ztsp, ztsx, zc0, zi0, zc1, zi1, zc2, zi2, zc3, zi3, zc4, zi4, zc5, zi5, zin, zcl, nI_1, Bool.and_self, Bool.true_and, Bool.and_true, zle, ix10, bit1, hb, this, false_and]
      | true =>
        rcases pv_cases g h i with ⟨c1, c2⟩ | ⟨c1, c2, c3⟩
        · have := ih (i + 1) fuel acc (by omega) (by omega) ha
          rw [c2] at ev
          simp (disch := omega) only [fxX7_bestWith_b10, fxX7_bestWith_b67, am_gd_t, am_lt_e, am_bd_s, bi_0, bi_bz, bz0, bz1, nz2, nz10, nz100, hp_gi, hp_si, ↓reduceIte, if_true, if_false, Bool.true_eq_false, Bool.false_eq_true, eq_self, reduceCtorEq, zo0, zp0_0, zp0_1, zp0_2, zp0_4, zp0_5, zp0_6, zp0_7, zp0_8, zp0_9, zp0_10, zo1, zp1_0, zp1_5, zp1_6, zp1_9, zo16, zp16_0, zp16_5, zp16_6, zp16_9, zo31, zp31_0, zp31_5, zp31_6, zp31_9, zo46, zp46_0, zp46_1, zp46_2, zo79, zp79_0, zo83, zp83_0, zp83_1, zp83_2, zo87, zp87_0, zp87_1, zo121, zp121_0, zp121_1, zp121_2, zp121_4, zp121_5, zp121_6, zp121_7, zp121_8, zp121_16, zp121_17, zp121_18, zp121_21, zp121_23, zp121_24, zp121_25, zp121_26, zp121_27, zp121_28, zp121_29, zp121_30, zp121_31, zp121_32, zp121_33, zp121_34, zp79_2, zx2, zx13, zx14, zx15, zx17, zx28, zx29, zx30, zx32, zx43, zx44, zx45, zx47, zx78, zx80, zx84, zx85, zx86, zx88, zx89, zx90, zx99, zx120, zx122, zx123, zx124, zx125, zx126, zx127, zx128, zx129, zx130, zx131, zx132, zx133, zx134, zx135, zx136, zx137, zx138, zx139, zx140, zx141, zx142, zx143, zx144, zx145, zg2, zg17, zg32, zgo3, zgo18, zgo33, zl47, zlo, zlp, zlx, zs90, zso, zsp, zsx, zt99, zto, ztp1, ztp2, ztgo, ztso, ztsp, ztsx, zc0, zi0, zc1, zi1, zc2, zi2, zc3, zi3, zc4, zi4, zc5, zi5, zin, zcl, nI_1, Bool.and_self, Bool.true_and, Bool.and_true, zle, ix10, bit1, hb, ev, this, c1, and_false]
        · have hle := clr_le o i
          obtain ⟨t1, t2⟩ := Tb_v (S := clr o i) hT (by omega) (by omega)
          have := ih (i + 1) fuel (max acc (wG g h i + cn (M 85 (clr o i)))) (by omega) (by omega) (by omega)
          rw [c2] at ev
          generalize hc : cn (M 85 (clr o i)) = c at *
          simp (disch := omega) only [fxX7_bestWith_b10, fxX7_bestWith_b67, am_gd_t, am_lt_e, am_bd_s, bi_0, bi_bz, bz0, bz1, nz2, nz10, nz100, hp_gi, hp_si, ↓reduceIte, if_true, if_false, Bool.true_eq_false, Bool.false_eq_true, eq_self, reduceCtorEq, zo0, zp0_0, zp0_1, zp0_2, zp0_4, zp0_5, zp0_6, zp0_7, zp0_8, zp0_9, zp0_10, zo1, zp1_0, zp1_5, zp1_6, zp1_9, zo16, zp16_0, zp16_5, zp16_6, zp16_9, zo31, zp31_0, zp31_5, zp31_6, zp31_9, zo46, zp46_0, zp46_1, zp46_2, zo79, zp79_0, zo83, zp83_0, zp83_1, zp83_2, zo87, zp87_0, zp87_1, zo121, zp121_0, zp121_1, zp121_2, zp121_4, zp121_5, zp121_6, zp121_7, zp121_8, zp121_16, zp121_17, zp121_18, zp121_21, zp121_23, zp121_24, zp121_25, zp121_26, zp121_27, zp121_28, zp121_29, zp121_30, zp121_31, zp121_32, zp121_33, zp121_34, zp79_2, zx2, zx13, zx14, zx15, zx17, zx28, zx29, zx30, zx32, zx43, zx44, zx45, zx47, zx78, zx80, zx84, zx85, zx86, zx88, zx89, zx90, zx99, zx120, zx122, zx123, zx124, zx125, zx126, zx127, zx128, zx129, zx130, zx131, zx132, zx133, zx134, zx135, zx136, zx137, zx138, zx139, zx140, zx141, zx142, zx143, zx144, zx145, zg2, zg17, zg32, zgo3, zgo18, zgo33, zl47, zlo, zlp, zlx, zs90, zso, zsp, zsx, zt99, zto, ztp1, ztp2, ztgo, ztso, ztsp, ztsx, zc0, zi0, zc1, zi1, zc2, zi2, zc3, zi3, zc4, zi4, zc5, zi5, zin, zcl, nI_1, Bool.and_self, Bool.true_and, Bool.and_true, zle, ix10, bit1, hb, ev, nI_nm1, q_clr, t1, nI_add, mmax_nI, this, c1, and_self, hc]
  obtain ⟨t1, t2⟩ := Tb_v (S := o) hT (by omega) (by omega)
  have := L h 0 am_F (cn (M 85 o)) (by omega) (by unfold am_F; omega) (by omega)
  rw [← t1] at this
  simp (disch := omega) only [fxX7_bestWith, am_gd_t, am_lt_e, am_bd_s, bi_0, bi_bz, bz0, bz1, nz2, nz10, nz100, hp_gi, hp_si, ↓reduceIte, if_true, if_false, Bool.true_eq_false, Bool.false_eq_true, eq_self, reduceCtorEq, zo0, zp0_0, zp0_1, zp0_2, zp0_4, zp0_5, zp0_6, zp0_7, zp0_8, zp0_9, zp0_10, zo1, zp1_0, zp1_5, zp1_6, zp1_9, zo16, zp16_0, zp16_5, zp16_6, zp16_9, zo31, zp31_0, zp31_5, zp31_6, zp31_9, zo46, zp46_0, zp46_1, zp46_2, zo79, zp79_0, zo83, zp83_0, zp83_1, zp83_2, zo87, zp87_0, zp87_1, zo121, zp121_0, zp121_1, zp121_2, zp121_4, zp121_5, zp121_6, zp121_7, zp121_8, zp121_16, zp121_17, zp121_18, zp121_21, zp121_23, zp121_24, zp121_25, zp121_26, zp121_27, zp121_28, zp121_29, zp121_30, zp121_31, zp121_32, zp121_33, zp121_34, zp79_2, zx2, zx13, zx14, zx15, zx17, zx28, zx29, zx30, zx32, zx43, zx44, zx45, zx47, zx78, zx80, zx84, zx85, zx86, zx88, zx89, zx90, zx99, zx120, zx122, zx123, zx124, zx125, zx126, zx127, zx128, zx129, zx130, zx131, zx132, zx133, zx134, zx135, zx136, zx137, zx138, zx139, zx140, zx141, zx142, zx143, zx144, zx145, zg2, zg17, zg32, zgo3, zgo18, zgo33, zl47, zlo, zlp, zlx, zs90, zso, zsp, zsx, zt99, zto, ztp1, ztp2, ztgo, ztso, ztsp, ztsx, zc0, zi0, zc1, zi1, zc2, zi2, zc3, zi3, zc4, zi4, zc5, zi5, zin, zcl, nI_1, Bool.and_self, Bool.true_and, Bool.and_true]
  exact this
theorem pair_in {lp n h : Nat} {g : Nat → Int32} (hn : n ≤ 10) (hh : h < n) (k9 : Option Nat → Int32 → am_H → Option (Unit × am_H)) : ∀ k o fuel (M : Mem), o + k = 2 ^ h → k < fuel → (∀ a b, a < n → b < n → a ≠ b → M 84 (10 * a + b) = pvS g a b) → Tb (pG g) (wG g) (M 85) (2 ^ h + o) → ∃ M', fxX7_pairUp_b23 k9 fuel (some 83) (nI h) (nI (2 ^ h)) (nI o) (hp lp M) = k9 (some 83) (nI (h + 1)) (hp lp M') ∧ Tb (pG g) (wG g) (M' 85) (2 ^ (h + 1)) ∧ ∀ z, z ≠ 85 → M' z = M z := by
  have h9 := pow9 (show h < 10 by omega)
  intro k
  induction k with
  | zero =>
    intro o fuel M hk hf hV hT
    obtain ⟨fuel, rfl⟩ : ∃ f, fuel = f + 1 := ⟨fuel - 1, by omega⟩
    obtain rfl : o = 2 ^ h := by omega
    refine ⟨M, ?_, ?_, fun _ _ => rfl⟩
    · simp (disch := omega) only [fxX7_pairUp_b23, am_gd_t, am_lt_e, am_bd_s, bi_0, bi_bz, bz0, bz1, nz2, nz10, nz100, hp_gi, hp_si, ↓reduceIte, if_true, if_false, Bool.true_eq_false, Bool.false_eq_true, eq_self, reduceCtorEq, zle', nI_1]
    · rw [Nat.pow_succ, Nat.mul_two]; exact hT
  | succ k ih =>
    intro o fuel M hk hf hV hT
    obtain ⟨fuel, rfl⟩ : ∃ f, fuel = f + 1 := ⟨fuel - 1, by omega⟩
    have ho : o < 2 ^ h := by omega
    have hbw := q_bestWith (lp := lp) hn hh ho hV hT
    generalize hv : mx (pG g) (wG g) (fun s => cn (M 85 s)) h o h 0 (cn (M 85 o)) = v at hbw
    have hvle : v ≤ 1000 * (2 ^ h + o) := by
      rw [← hv]
      have hpos : 0 < 2 ^ h := Nat.two_pow_pos h
      refine mx_le (fun y hy _ => ?_) _ _ _ ?_
      · have := clr_lt (S := o) (by omega) hy
        have := (Tb_v (S := clr o y) hT (by omega) (by omega)).2
        have := wG_le g h y
        omega
      · have := (Tb_v (S := o) hT (by omega) (by omega)).2
        omega
    generalize hM1 : am_up M 85 (2 ^ h + o) (nI v) = M1
    have r1 : ∀ z, z ≠ 85 → M1 z = M z := fun z hz => by rw [← hM1, am_up_ne hz]
    obtain ⟨M', q1, q2, q3⟩ := ih (o + 1) fuel M1 (by omega) (by omega) (fun a b ha hb hab => by rw [r1 84 (by decide)]; exact hV a b ha hb hab) (by
      rw [← hM1, up_row]
      refine Tb_up hT hvle (fun h' o' e1 e2 => ?_)
      have : h' = h := by
        have a1 := hi_tb e2
        rw [← e1] at a1
        have a2 := hi_le ho a1
        have a3 := hi_tb ho
        rw [e1] at a3
        have a4 := hi_le e2 a3
        omega
      subst this
      have : o' = o := by omega
      subst this
      exact hv.symm)
    refine ⟨M', ?_, q2, fun z hz => by rw [q3 z hz, r1 z hz]⟩
    simp (disch := omega) only [fxX7_pairUp_b23, am_gd_t, am_lt_e, am_bd_s, bi_0, bi_bz, bz0, bz1, nz2, nz10, nz100, hp_gi, hp_si, ↓reduceIte, if_true, if_false, Bool.true_eq_false, Bool.false_eq_true, eq_self, reduceCtorEq, zo0, zp0_0, zp0_1, zp0_2, zp0_4, zp0_5, zp0_6, zp0_7, zp0_8, zp0_9, zp0_10, zo1, zp1_0, zp1_5, zp1_6, zp1_9, zo16, zp16_0, zp16_5, zp16_6, zp16_9, zo31, zp31_0, zp31_5, zp31_6, zp31_9, zo46, zp46_0, zp46_1, zp46_2, zo79, zp79_0, zo83, zp83_0, zp83_1, zp83_2, zo87, zp87_0, zp87_1, zo121, zp121_0, zp121_1, zp121_2, zp121_4, zp121_5, zp121_6, zp121_7, zp121_8, zp121_16, zp121_17, zp121_18, zp121_21, zp121_23, zp121_24, zp121_25, zp121_26, zp121_27, zp121_28, zp121_29, zp121_30, zp121_31, zp121_32, zp121_33, zp121_34, zp79_2, zx2, zx13, zx14, zx15, zx17, zx28, zx29, zx30, zx32, zx43, zx44, zx45, zx47, zx78, zx80, zx84, zx85, zx86, zx88, zx89, zx90, zx99, zx120, zx122, zx123, zx124, zx125, zx126, zx127, zx128, zx129, zx130, zx131, zx132, zx133, zx134, zx135, zx136, zx137, zx138, zx139, zx140, zx141, zx142, zx143, zx144, zx145, zg2, zg17, zg32, zgo3, zgo18, zgo33, zl47, zlo, zlp, zlx, zs90, zso, zsp, zsx, zt99, zto, ztp1, ztp2, ztgo, ztso, ztsp, ztsx, zc0, zi0, zc1, zi1, zc2, zi2, zc3, zi3, zc4, zi4, zc5, zi5, zin, zcl, nI_1, Bool.and_self, Bool.true_and, Bool.and_true, zle, hbw, q_orb, hM1]
    exact q1
theorem q_pairUp {lp n : Nat} {M : Mem} {g : Nat → Int32} (hn : n ≤ 10) (e3 : M 83 3 = nI n) (hV : ∀ a b, a < n → b < n → a ≠ b → M 84 (10 * a + b) = pvS g a b) : ∃ M', fxX7_pairUp (some 83) (hp lp M) = some ((), hp lp M') ∧ Tb (pG g) (wG g) (M' 85) (2 ^ n) ∧ ∀ z, z ≠ 85 → M' z = M z := by
  have L : ∀ k h fuel (M : Mem), h + k = n → k < fuel → M 83 3 = nI n → (∀ a b, a < n → b < n → a ≠ b → M 84 (10 * a + b) = pvS g a b) → Tb (pG g) (wG g) (M 85) (2 ^ h) → ∃ M', fxX7_pairUp_b9 fuel (some 83) (nI h) (hp lp M) = some ((), hp lp M') ∧ Tb (pG g) (wG g) (M' 85) (2 ^ n) ∧ ∀ z, z ≠ 85 → M' z = M z := by
    intro k
    induction k with
    | zero =>
      intro h fuel M hk hf e3 hV hT
      obtain ⟨fuel, rfl⟩ : ∃ f, fuel = f + 1 := ⟨fuel - 1, by omega⟩
      obtain rfl : h = n := by omega
      refine ⟨M, ?_, hT, fun _ _ => rfl⟩
      simp (disch := omega) only [fxX7_pairUp_b9, am_gd_t, am_lt_e, am_bd_s, bi_0, bi_bz, bz0, bz1, nz2, nz10, nz100, hp_gi, hp_si, ↓reduceIte, if_true, if_false, Bool.true_eq_false, Bool.false_eq_true, eq_self, reduceCtorEq, zo0, zp0_0, zp0_1, zp0_2, zp0_4, zp0_5, zp0_6, zp0_7, zp0_8, zp0_9, zp0_10, zo1, zp1_0, zp1_5, zp1_6, zp1_9, zo16, zp16_0, zp16_5, zp16_6, zp16_9, zo31, zp31_0, zp31_5, zp31_6, zp31_9, zo46, zp46_0, zp46_1, zp46_2, zo79, zp79_0, zo83, zp83_0, zp83_1, zp83_2, zo87, zp87_0, zp87_1, zo121, zp121_0, zp121_1, zp121_2, zp121_4, zp121_5, zp121_6, zp121_7, zp121_8, zp121_16, zp121_17, zp121_18, zp121_21, zp121_23, zp121_24, zp121_25, zp121_26, zp121_27, zp121_28, zp121_29, zp121_30, zp121_31, zp121_32, zp121_33, zp121_34, zp79_2, zx2, zx13, zx14, zx15, zx17, zx28, zx29, zx30, zx32, zx43, zx44, zx45, zx47, zx78, zx80, zx84, zx85, zx86, zx88, zx89, zx90, zx99, zx120, zx122, zx123, zx124, zx125, zx126, zx127, zx128, zx129, zx130, zx131, zx132, zx133, zx134, zx135, zx136, zx137, zx138, zx139, zx140, zx141, zx142, zx143, zx144, zx145, zg2, zg17, zg32, zgo3, zgo18, zgo33, zl47, zlo, zlp, zlx, zs90, zso, zsp, zsx, zt99, zto, ztp1, ztp2, ztgo, ztso, ztsp, ztsx, zc0, zi0, zc1, zi1, zc2, zi2, zc3, zi3, zc4, zi4, zc5, zi5, e3, zle']
    | succ k ih =>
      intro h fuel M hk hf e3 hV hT
      obtain ⟨fuel, rfl⟩ : ∃ f, fuel = f + 1 := ⟨fuel - 1, by omega⟩
      have h9 := pow9 (show h < 10 by omega)
      obtain ⟨M1, p1, p2, p3⟩ := pair_in (lp := lp) hn (show h < n by omega) (fxX7_pairUp_b9 fuel) (2 ^ h) 0 am_F M (by omega) (by unfold am_F; omega) hV hT
      obtain ⟨M', q1, q2, q3⟩ := ih (h + 1) fuel M1 (by omega) (by omega) (by rw [p3 83 (by decide)]; exact e3) (by rw [p3 84 (by decide)]; exact hV) p2
      refine ⟨M', ?_, q2, fun z hz => by rw [q3 z hz, p3 z hz]⟩
      simp (disch := omega) only [fxX7_pairUp_b9, am_gd_t, am_lt_e, am_bd_s, bi_0, bi_bz, bz0, bz1, nz2, nz10, nz100, hp_gi, hp_si, ↓reduceIte, if_true, if_false, Bool.true_eq_false, Bool.false_eq_true, eq_self, reduceCtorEq, zo0, zp0_0, zp0_1, zp0_2, zp0_4, zp0_5, zp0_6, zp0_7, zp0_8, zp0_9, zp0_10, zo1, zp1_0, zp1_5, zp1_6, zp1_9, zo16, zp16_0, zp16_5, zp16_6, zp16_9, zo31, zp31_0, zp31_5, zp31_6, zp31_9, zo46, zp46_0, zp46_1, zp46_2, zo79, zp79_0, zo83, zp83_0, zp83_1, zp83_2, zo87, zp87_0, zp87_1, zo121, zp121_0, zp121_1, zp121_2, zp121_4, zp121_5, zp121_6, zp121_7, zp121_8, zp121_16, zp121_17, zp121_18, zp121_21, zp121_23, zp121_24, zp121_25, zp121_26, zp121_27, zp121_28, zp121_29, zp121_30, zp121_31, zp121_32, zp121_33, zp121_34, zp79_2, zx2, zx13, zx14, zx15, zx17, zx28, zx29, zx30, zx32, zx43, zx44, zx45, zx47, zx78, zx80, zx84, zx85, zx86, zx88, zx89, zx90, zx99, zx120, zx122, zx123, zx124, zx125, zx126, zx127, zx128, zx129, zx130, zx131, zx132, zx133, zx134, zx135, zx136, zx137, zx138, zx139, zx140, zx141, zx142, zx143, zx144, zx145, zg2, zg17, zg32, zgo3, zgo18, zgo33, zl47, zlo, zlp, zlx, zs90, zso, zsp, zsx, zt99, zto, ztp1, ztp2, ztgo, ztso, ztsp, ztsx, zc0, zi0, zc1, zi1, zc2, zi2, zc3, zi3, zc4, zi4, zc5, zi5, e3, zle, q_shl]
      rw [show (0 : Int32) = nI 0 from rfl, p1]
      exact q1
  obtain ⟨M', q1, q2, q3⟩ := L n 0 am_F (am_up M 85 0 0) (by omega) (by unfold am_F; omega) (by rw [am_up_ne (by decide)]; exact e3) (by rw [am_up_ne (by decide)]; exact hV) (by
    rw [up_row]
    intro S hS
    have : S = 0 := by simp at hS; exact hS
    subst this
    refine ⟨0, by omega, up1_eq _ _ _, fun h o h1 h2 => ?_⟩
    have h3 : 0 < 2 ^ h := Nat.two_pow_pos h
    omega)
  refine ⟨M', ?_, q2, fun z hz => by rw [q3 z hz, am_up_ne hz]⟩
  simp only [fxX7_pairUp, am_gd_t, am_lt_e, am_bd_s, bi_0, bi_bz, bz0, bz1, nz2, nz10, nz100, hp_gi, hp_si, ↓reduceIte, if_true, if_false, Bool.true_eq_false, Bool.false_eq_true, eq_self, reduceCtorEq, zo0, zp0_0, zp0_1, zp0_2, zp0_4, zp0_5, zp0_6, zp0_7, zp0_8, zp0_9, zp0_10, zo1, zp1_0, zp1_5, zp1_6, zp1_9, zo16, zp16_0, zp16_5, zp16_6, zp16_9, zo31, zp31_0, zp31_5, zp31_6, zp31_9, zo46, zp46_0, zp46_1, zp46_2, zo79, zp79_0, zo83, zp83_0, zp83_1, zp83_2, zo87, zp87_0, zp87_1, zo121, zp121_0, zp121_1, zp121_2, zp121_4, zp121_5, zp121_6, zp121_7, zp121_8, zp121_16, zp121_17, zp121_18, zp121_21, zp121_23, zp121_24, zp121_25, zp121_26, zp121_27, zp121_28, zp121_29, zp121_30, zp121_31, zp121_32, zp121_33, zp121_34, zp79_2, zx2, zx13, zx14, zx15, zx17, zx28, zx29, zx30, zx32, zx43, zx44, zx45, zx47, zx78, zx80, zx84, zx85, zx86, zx88, zx89, zx90, zx99, zx120, zx122, zx123, zx124, zx125, zx126, zx127, zx128, zx129, zx130, zx131, zx132, zx133, zx134, zx135, zx136, zx137, zx138, zx139, zx140, zx141, zx142, zx143, zx144, zx145, zg2, zg17, zg32, zgo3, zgo18, zgo33, zl47, zlo, zlp, zlx, zs90, zso, zsp, zsx, zt99, zto, ztp1, ztp2, ztgo, ztso, ztsp, ztsx, zc0, zi0, zc1, zi1, zc2, zi2, zc3, zi3, zc4, zi4, zc5, zi5, show am_in (0 : Int32) 1024 = true from rfl]
  exact q1
theorem Good_H {n : Nat} (hn : n ≤ 10) {g b : Nat → Int32} (hT : Tb (pG g) (wG g) b (2 ^ n)) : Good n (pG g) (wG g) (fun s => cn (b s)) := by
  have hpos : 0 < 2 ^ n := Nat.two_pow_pos n
  refine Good_of hn (le := fun a b => b ≤ a) (pG_comm g) (wG_comm g) (fun a b h1 h2 => Nat.le_antisymm h2 h1) ?_ (fun S hS hS0 => ?_)
  · have := (Tb_v (S := 0) hT hpos (by decide)).2
    show cn (b 0) = 0
    omega
  · obtain ⟨h, o, h1, h2, h3⟩ := hi_ex hS hS0
    have hS10 := n10 hn hS
    obtain ⟨v, hvl, e, hv⟩ := hT S hS
    have hv := hv h o h2 h3
    have ev : cn (b S) = v := by rw [e, cn_nI (by omega)]
    have ec : clr S h = o := by rw [h2]; exact hi_clr (by omega) h3
    have hob : ∀ y, S.testBit y = true → h ≠ y → o.testBit y = true ∧ y < h := fun y hy hne => by
      have hy2 := hy
      rw [h2] at hy2
      have := hi_le h3 hy2
      refine ⟨?_, by omega⟩
      rw [← ec, clr_tb hS10 (by omega), hy]
      simp [hne]
    have hso : ∀ y, o.testBit y = true → S.testBit y = true ∧ h ≠ y := fun y hy => by
      rw [← ec, clr_tb hS10 (by omega)] at hy
      simp at hy
      exact hy
    refine ⟨h, by rw [h2]; exact hi_tb h3, fun i hi => by rw [h2] at hi; exact hi_le h3 hi, ?_, fun y hy hne hp => ?_, ?_⟩
    · show cn (b (clr S h)) ≤ cn (b S)
      rw [ec, ev, hv]; exact mx_ge0 _ _ _
    · show wG g h y + cn (b (clr (clr S h) y)) ≤ cn (b S)
      rw [ec, ev, hv]
      exact mx_ge (B := fun s => cn (b s)) h 0 _ y (by omega) (by have := (hob y hy hne).2; omega) (hob y hy hne).1 hp
    · show cn (b S) = cn (b (clr S h)) ∨ _
      rw [ec, ev, hv]
      rcases mx_att (p := pG g) (w := wG g) (B := fun s => cn (b s)) (e := h) (r := o) h 0 (cn (b o)) with q | ⟨y, y1, y2, y3, y4, q⟩
      · exact Or.inl q
      · refine Or.inr ⟨y, (hso y y3).1, (hso y y3).2, y4, ?_⟩
        show cn (b S) = wG g h y + cn (b (clr o y))
        rw [ev, hv]; exact q
