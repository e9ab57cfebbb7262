/-! ===== the reference's joins; joins, sure, better ===== -/
theorem nz5 : am_nz (5 : Int32) = true := Eq.trans rfl rfl
theorem gives_h {x l P : Nat} {h : am_H} (hx : x < 1000000) (h1 : am_in (nI l) (am_kc [] 1).length = true) (h2 : (am_kc [] 1).getD (nI l).toNatClampNeg 0 = nI P) (hP : P = 5 ^ l) (h0 : 0 < P) (hP2 : P < 1000) : fxX10_gives (nI x) (nI l) h = some (nI (gv x l), h) := by
  have hz : am_nz (nI P) = true := nz_of (nI_ne0 h0 (by omega))
  have hdv : x / P ≤ x := Nat.div_le_self _ _
  simp only [fxX10_gives, h1, h2, hz, nz5, am_gd_t]
  rw [pk_div (by omega) h0 (by omega), show (5 : Int32) = nI 5 from rfl, rem_nI (by omega) (by decide) (by decide)]
  unfold gv
  rw [hP]
theorem q_gives {x l : Nat} {h : am_H} (hx : x < 1000000) (hl : l < 5) : fxX10_gives (nI x) (nI l) h = some (nI (gv x l), h) := by
  rcases (show l = 0 ∨ l = 1 ∨ l = 2 ∨ l = 3 ∨ l = 4 by omega) with rfl | rfl | rfl | rfl | rfl
  · exact gives_h (P := 1) hx rfl rfl rfl (by decide) (by decide)
  · exact gives_h (P := 5) hx rfl rfl rfl (by decide) (by decide)
  · exact gives_h (P := 25) hx rfl rfl rfl (by decide) (by decide)
  · exact gives_h (P := 125) hx rfl rfl rfl (by decide) (by decide)
  · exact gives_h (P := 625) hx rfl rfl rfl (by decide) (by decide)
theorem mt_lt (x : Nat) : ∀ w, mt x w < 32 := by
  intro w
  induction w with
  | zero => exact (by decide : 0 < 32)
  | succ w ih =>
    unfold mt
    have h1 := gv_lt x w
    have h2 : 2 ^ gv x w < 2 ^ 5 := Nat.pow_lt_pow_right (by decide) h1
    exact Nat.or_lt_two_pow (n := 5) ih h2
theorem q_holdsJoin {lp x w : Nat} {M : Mem} (hx : x < 1000000) (hw : w ≤ 10) (e4 : M 122 4 = nI w) (hW : ∀ i, i < w → ∃ a b, a ≤ 4 ∧ b ≤ 4 ∧ M 122 (6 + i) = nI (10 * a + b)) : fxX10_holdsJoin (some 121) (nI x) (hp lp M) = some (bi (permB x && hR (M 122) w 0 x), hp lp M) := by
  have L2 : ∀ k i fuel b, i + k = w → k < fuel → fxX10_holdsJoin_b40 fuel (some 121) (nI x) (bi b) (nI i) (hp lp M) = some (bi (b && hR (M 122) k i x), hp lp M) := by
    intro k
    induction k with
    | zero =>
      intro i fuel b hi hf
      obtain ⟨fuel, rfl⟩ : ∃ f, fuel = f + 1 := ⟨fuel - 1, by omega⟩
      obtain rfl : i = w := by omega
      simp (disch := omega) only [fxX10_holdsJoin_b40, am_gd_t, am_lt_e, am_bd_s, bi_0, bi_bz, bz0, bz1, nz2, nz10, nz100, hp_gi, hp_si, ↓reduceIte, if_true, if_false, Bool.true_eq_false, Bool.false_eq_true, eq_self, reduceCtorEq, zo0, zp0_0, zp0_1, zp0_2, zp0_4, zp0_5, zp0_6, zp0_7, zp0_8, zp0_9, zp0_10, zo1, zp1_0, zp1_5, zp1_6, zp1_9, zo16, zp16_0, zp16_5, zp16_6, zp16_9, zo31, zp31_0, zp31_5, zp31_6, zp31_9, zo46, zp46_0, zp46_1, zp46_2, zo79, zp79_0, zo83, zp83_0, zp83_1, zp83_2, zo87, zp87_0, zp87_1, zo121, zp121_0, zp121_1, zp121_2, zp121_4, zp121_5, zp121_6, zp121_7, zp121_8, zp121_16, zp121_17, zp121_18, zp121_21, zp121_23, zp121_24, zp121_25, zp121_26, zp121_27, zp121_28, zp121_29, zp121_30, zp121_31, zp121_32, zp121_33, zp121_34, zp79_2, zx2, zx13, zx14, zx15, zx17, zx28, zx29, zx30, zx32, zx43, zx44, zx45, zx47, zx78, zx80, zx84, zx85, zx86, zx88, zx89, zx90, zx99, zx120, zx122, zx123, zx124, zx125, zx126, zx127, zx128, zx129, zx130, zx131, zx132, zx133, zx134, zx135, zx136, zx137, zx138, zx139, zx140, zx141, zx142, zx143, zx144, zx145, zg2, zg17, zg32, zgo3, zgo18, zgo33, zl47, zlo, zlp, zlx, zs90, zso, zsp, zsx, zt99, zto, ztp1, ztp2, ztgo, ztso, ztsp, ztsx, zc0, zi0, zc1, zi1, zc2, zi2, zc3, zi3, zc4, zi4, zc5, zi5, e4, zle', hR, Bool.and_true]
    | succ k ih =>
      intro i fuel b hi hf
      obtain ⟨fuel, rfl⟩ : ∃ f, fuel = f + 1 := ⟨fuel - 1, by omega⟩
      cases b with
      | false => simp (disch := omega) only [fxX10_holdsJoin_b40, am_gd_t, am_lt_e, am_bd_s, bi_0, bi_bz, bz0, bz1, nz2, nz10, nz100, hp_gi, hp_si, ↓reduceIte, if_true, if_false, Bool.true_eq_false, Bool.false_eq_true, eq_self, reduceCtorEq, zo0, zp0_0, zp0_1, zp0_2, zp0_4, zp0_5, zp0_6, zp0_7, zp0_8, zp0_9, zp0_10, zo1, zp1_0, zp1_5, zp1_6, zp1_9, zo16, zp16_0, zp16_5, zp16_6, zp16_9, zo31, zp31_0, zp31_5, zp31_6, zp31_9, zo46, zp46_0, zp46_1, zp46_2, zo79, zp79_0, zo83, zp83_0, zp83_1, zp83_2, zo87, zp87_0, zp87_1, zo121, zp121_0, zp121_1, zp121_2, zp121_4, zp121_5, zp121_6, zp121_7, zp121_8, zp121_16, zp121_17, zp121_18, zp121_21, zp121_23, zp121_24, zp121_25, zp121_26, zp121_27, zp121_28, zp121_29, zp121_30, zp121_31, zp121_32, zp121_33, zp121_34, zp79_2, zx2, zx13, zx14, zx15, zx17, zx28, zx29, zx30, zx32, zx43, zx44, zx45, zx47, zx78, zx80, zx84, zx85, zx86, zx88, zx89, zx90, zx99, zx120, zx122, zx123, zx124, zx125, zx126, zx127, zx128, zx129, zx130, zx131, zx132, zx133, zx134, zx135, zx136, zx137, zx138, zx139, zx140, zx141, zx142, zx143, zx144, zx145, zg2, zg17, zg32, zgo3, zgo18, zgo33, zl47, zlo, zlp, zlx, zs90, zso, zsp, zsx, zt99, zto, ztp1, ztp2, ztgo, ztso, ztsp, ztsx, zc0, zi0, zc1, zi1, zc2, zi2, zc3, zi3, zc4, zi4, zc5, zi5, e4, zle, Bool.false_and]
      | true =>
        obtain ⟨a, b, h1, h2, h5⟩ := hW i (by omega)
        have h6 : (6 : Int32) + nI i = nI (6 + i) := by rw [show (6 : Int32) = nI 6 from rfl, nI_add]
        have hdv : nI (10 * a + b) / 10 = nI a := by
          rw [show (10 : Int32) = nI 10 from rfl, pk_div (by omega) (by decide) (by decide)]; congr 1; omega
        have hrm : am_rem (nI (10 * a + b)) 10 = nI b := by
          rw [show (10 : Int32) = nI 10 from rfl, rem_nI (by omega) (by decide) (by decide)]; congr 1; omega
        have hgv := q_gives (x := x) (l := a) (h := hp lp M) hx (by omega)
        have hlt := gv_lt x a
        have ec : cn (M 122 (6 + i)) = 10 * a + b := by rw [h5, cn_nI (by omega)]
        have e10 : cn (M 122 (6 + i)) / 10 = a := by rw [ec]; omega
        have e11 : cn (M 122 (6 + i)) % 10 = b := by rw [ec]; omega
        unfold hR
        rw [e10, e11, Bool.true_and]
        by_cases q : gv x a = b
        · have hI := ih (i + 1) fuel true (by omega) (by omega)
          rw [Bool.true_and] at hI
          rw [show (gv x a == b) = true from beq_iff_eq.mpr q, Bool.true_and, ← hI]
          rw [q] at hgv
          simp (disch := omega) only [fxX10_holdsJoin_b40, fxX10_holdsJoin_b93, am_gd_t, am_lt_e, am_bd_s, bi_0, bi_bz, bz0, bz1, nz2, nz10, nz100, hp_gi, hp_si, ↓reduceIte, if_true, if_false, Bool.true_eq_false, Bool.false_eq_true, eq_self, reduceCtorEq, zo0, zp0_0, zp0_1, zp0_2, zp0_4, zp0_5, zp0_6, zp0_7, zp0_8, zp0_9, zp0_10, zo1, zp1_0, zp1_5, zp1_6, zp1_9, zo16, zp16_0, zp16_5, zp16_6, zp16_9, zo31, zp31_0, zp31_5, zp31_6, zp31_9, zo46, zp46_0, zp46_1, zp46_2, zo79, zp79_0, zo83, zp83_0, zp83_1, zp83_2, zo87, zp87_0, zp87_1, zo121, zp121_0, zp121_1, zp121_2, zp121_4, zp121_5, zp121_6, zp121_7, zp121_8, zp121_16, zp121_17, zp121_18, zp121_21, zp121_23, zp121_24, zp121_25, zp121_26, zp121_27, zp121_28, zp121_29, zp121_30, zp121_31, zp121_32, zp121_33, zp121_34, zp79_2, zx2, zx13, zx14, zx15, zx17, zx28, zx29, zx30, zx32, zx43, zx44, zx45, zx47, zx78, zx80, zx84, zx85, zx86, zx88, zx89, zx90, zx99, zx120, zx122, zx123, zx124, zx125, zx126, zx127, zx128, zx129, zx130, zx131, zx132, zx133, zx134, zx135, zx136, zx137, zx138, zx139, zx140, zx141, zx142, zx143, zx144, zx145, zg2, zg17, zg32, zgo3, zgo18, zgo33, zl47, zlo, zlp, zlx, zs90, zso, zsp, zsx, zt99, zto, ztp1, ztp2, ztgo, ztso, ztsp, ztsx, zc0, zi0, zc1, zi1, zc2, zi2, zc3, zi3, zc4, zi4, zc5, zi5, zin, zcl, nI_1, Bool.and_self, Bool.true_and, Bool.and_true, e4, zle, h6, h5, hdv, hgv, hrm]
          rfl
        · have hI := ih (i + 1) fuel false (by omega) (by omega)
          rw [Bool.false_and] at hI
          rw [show (gv x a == b) = false from beq_eq_false_iff_ne.mpr q, Bool.false_and, ← hI]
          have hne : (nI (gv x a) = nI b) = False := zne q (by omega) (by omega)
          simp (disch := omega) only [fxX10_holdsJoin_b40, fxX10_holdsJoin_b93, am_gd_t, am_lt_e, am_bd_s, bi_0, bi_bz, bz0, bz1, nz2, nz10, nz100, hp_gi, hp_si, ↓reduceIte, if_true, if_false, Bool.true_eq_false, Bool.false_eq_true, eq_self, reduceCtorEq, zo0, zp0_0, zp0_1, zp0_2, zp0_4, zp0_5, zp0_6, zp0_7, zp0_8, zp0_9, zp0_10, zo1, zp1_0, zp1_5, zp1_6, zp1_9, zo16, zp16_0, zp16_5, zp16_6, zp16_9, zo31, zp31_0, zp31_5, zp31_6, zp31_9, zo46, zp46_0, zp46_1, zp46_2, zo79, zp79_0, zo83, zp83_0, zp83_1, zp83_2, zo87, zp87_0, zp87_1, zo121, zp121_0, zp121_1, zp121_2, zp121_4, zp121_5, zp121_6, zp121_7, zp121_8, zp121_16, zp121_17, zp121_18, zp121_21, zp121_23, zp121_24, zp121_25, zp121_26, zp121_27, zp121_28, zp121_29, zp121_30, zp121_31, zp121_32, zp121_33, zp121_34, zp79_2, zx2, zx13, zx14, zx15, zx17, zx28, zx29, zx30, zx32, zx43, zx44, zx45, zx47, zx78, zx80, zx84, zx85, zx86, zx88, zx89, zx90, zx99, zx120, zx122, zx123, zx124, zx125, zx126, zx127, zx128, zx129, zx130, zx131, zx132, zx133, zx134, zx135, zx136, zx137, zx138, zx139, zx140, zx141, zx142, zx143, zx144, zx145, zg2, zg17, zg32, zgo3, zgo18, zgo33, zl47, zlo, zlp, zlx, zs90, zso, zsp, zsx, zt99, zto, ztp1, ztp2, ztgo, ztso, ztsp, ztsx, zc0, zi0, zc1, zi1, zc2, zi2, zc3, zi3, zc4, zi4, zc5, zi5, zin, zcl, nI_1, Bool.and_self, Bool.true_and, Bool.and_true, e4, zle, h6, h5, hdv, hgv, hrm, hne]
          rfl
  have L1 : ∀ k v fuel, v + k = 5 → k < fuel → fxX10_holdsJoin_b4 fuel (some 121) (nI x) (nI (mt x v)) (nI v) (hp lp M) = some (bi (permB x && hR (M 122) w 0 x), hp lp M) := by
    intro k
    induction k with
    | zero =>
      intro v fuel hv hf
      obtain ⟨fuel, rfl⟩ : ∃ f, fuel = f + 1 := ⟨fuel - 1, by omega⟩
      obtain rfl : v = 5 := by omega
      have hlt := mt_lt x 5
      have h31 : (nI (mt x 5) = 31) = (mt x 5 = 31) := propext (nI_eq (b := 31) (by omega) (by decide))
      have := L2 w 0 am_F (permB x) (by omega) (by unfold am_F; omega)
      rw [← this]
      unfold permB
      by_cases q : mt x 5 = 31
      · rw [show (mt x 5 == 31) = true from beq_iff_eq.mpr q]
        simp only [fxX10_holdsJoin_b4, fxX10_holdsJoin_b36, n5', am_gd_t, am_lt_e, am_bd_s, bi_0, bi_bz, bz0, bz1, nz2, nz10, nz100, hp_gi, hp_si, ↓reduceIte, if_true, if_false, Bool.true_eq_false, Bool.false_eq_true, eq_self, reduceCtorEq, h31, q]
        rfl
      · rw [show (mt x 5 == 31) = false from beq_eq_false_iff_ne.mpr q]
        simp only [fxX10_holdsJoin_b4, fxX10_holdsJoin_b36, n5', am_gd_t, am_lt_e, am_bd_s, bi_0, bi_bz, bz0, bz1, nz2, nz10, nz100, hp_gi, hp_si, ↓reduceIte, if_true, if_false, Bool.true_eq_false, Bool.false_eq_true, eq_self, reduceCtorEq, h31, q]
        rfl
    | succ k ih =>
      intro v fuel hv hf
      obtain ⟨fuel, rfl⟩ : ∃ f, fuel = f + 1 := ⟨fuel - 1, by omega⟩
      have hI := ih (v + 1) fuel (by omega) (by omega)
      have hlt := gv_lt x v
      rw [← hI]
      simp (disch := omega) only [fxX10_holdsJoin_b4, n5, am_gd_t, am_lt_e, am_bd_s, bi_0, bi_bz, bz0, bz1, nz2, nz10, nz100, hp_gi, hp_si, ↓reduceIte, if_true, if_false, Bool.true_eq_false, Bool.false_eq_true, eq_self, reduceCtorEq, q_gives, q_shl, nw_or, nI_1, mt]
  have := L1 5 0 am_F (by omega) (by unfold am_F; omega)
  simp only [fxX10_holdsJoin, am_gd_t, am_lt_e, am_bd_s, bi_0, bi_bz, bz0, bz1, nz2, nz10, nz100, hp_gi, hp_si]
  exact this
theorem find_in2 {lp x : Nat} {c : Nat → Nat → Nat} {n : Int32} (hx : x < 1000000) (k25 : Option Nat → Int32 → Int32 → am_H → Option (Int32 × am_H)) : ∀ k l fuel (M : Mem), l + k = 5 → k < fuel → TG (M 128) (fun a b => c a b + if a < l ∧ gv x a = b then 1 else 0) → ∃ M', fxX10_findJoins_b45 k25 fuel (some 121) n (nI x) (nI l) (hp lp M) = k25 (some 121) n (nI (x + 1)) (hp lp M') ∧ TG (M' 128) (fun a b => c a b + if gv x a = b then 1 else 0) ∧ ∀ z, z ≠ 128 → M' z = M z := by
  intro k
  induction k with
  | zero =>
    intro l fuel M hl hf hT
    obtain ⟨fuel, rfl⟩ : ∃ f, fuel = f + 1 := ⟨fuel - 1, by omega⟩
    obtain rfl : l = 5 := by omega
    refine ⟨M, ?_, fun a ha b hb => ?_, fun _ _ => rfl⟩
    · simp only [fxX10_findJoins_b45, fxX10_findJoins_b74, n5', am_gd_t, am_lt_e, am_bd_s, bi_0, bi_bz, bz0, bz1, nz2, nz10, nz100, hp_gi, hp_si, ↓reduceIte, if_true, if_false, Bool.true_eq_false, Bool.false_eq_true, eq_self, reduceCtorEq, nI_1]
    · rw [hT a ha b hb]
      dsimp only
      congr 2
      by_cases q : gv x a = b
      · rw [if_pos ⟨ha, q⟩, if_pos q]
      · rw [if_neg (fun x => q x.2), if_neg q]
  | succ k ih =>
    intro l fuel M hl hf hT
    obtain ⟨fuel, rfl⟩ : ∃ f, fuel = f + 1 := ⟨fuel - 1, by omega⟩
    have hlt := gv_lt x l
    generalize hM1 : am_up M 128 (5 * l + gv x l) (M 128 (5 * l + gv x l) + 1) = M1
    have r1 : ∀ z, z ≠ 128 → M1 z = M z := fun z hz => by rw [← hM1, am_up_ne hz]
    obtain ⟨M', q1, q2, q3⟩ := ih (l + 1) fuel M1 (by omega) (by omega) (by rw [← hM1, up_row]; exact TG_up (gv_lt x) (by omega) hT)
    refine ⟨M', ?_, q2, fun z hz => by rw [q3 z hz, r1 z hz]⟩
    simp (disch := omega) only [fxX10_findJoins_b45, n5, am_gd_t, am_lt_e, am_bd_s, bi_0, bi_bz, bz0, bz1, nz2, nz10, nz100, hp_gi, hp_si, ↓reduceIte, if_true, if_false, Bool.true_eq_false, Bool.false_eq_true, eq_self, reduceCtorEq, zo0, zp0_0, zp0_1, zp0_2, zp0_4, zp0_5, zp0_6, zp0_7, zp0_8, zp0_9, zp0_10, zo1, zp1_0, zp1_5, zp1_6, zp1_9, zo16, zp16_0, zp16_5, zp16_6, zp16_9, zo31, zp31_0, zp31_5, zp31_6, zp31_9, zo46, zp46_0, zp46_1, zp46_2, zo79, zp79_0, zo83, zp83_0, zp83_1, zp83_2, zo87, zp87_0, zp87_1, zo121, zp121_0, zp121_1, zp121_2, zp121_4, zp121_5, zp121_6, zp121_7, zp121_8, zp121_16, zp121_17, zp121_18, zp121_21, zp121_23, zp121_24, zp121_25, zp121_26, zp121_27, zp121_28, zp121_29, zp121_30, zp121_31, zp121_32, zp121_33, zp121_34, zp79_2, zx2, zx13, zx14, zx15, zx17, zx28, zx29, zx30, zx32, zx43, zx44, zx45, zx47, zx78, zx80, zx84, zx85, zx86, zx88, zx89, zx90, zx99, zx120, zx122, zx123, zx124, zx125, zx126, zx127, zx128, zx129, zx130, zx131, zx132, zx133, zx134, zx135, zx136, zx137, zx138, zx139, zx140, zx141, zx142, zx143, zx144, zx145, zg2, zg17, zg32, zgo3, zgo18, zgo33, zl47, zlo, zlp, zlx, zs90, zso, zsp, zsx, zt99, zto, ztp1, ztp2, ztgo, ztso, ztsp, ztsx, zc0, zi0, zc1, zi1, zc2, zi2, zc3, zi3, zc4, zi4, zc5, zi5, zin, zcl, nI_1, Bool.and_self, Bool.true_and, Bool.and_true, q_gives, ix5', hM1]
    exact q1
theorem q_findJoins {lp w : Nat} {M : Mem} (hw : w ≤ 10) (e4 : M 122 4 = nI w) (hW : ∀ i, i < w → ∃ a b, a ≤ 4 ∧ b ≤ 4 ∧ M 122 (6 + i) = nI (10 * a + b)) : ∃ M', fxX10_findJoins (some 121) (hp lp M) = some (nI (cH (fun j => hR (M 122) w 0 (ej j)) 120), hp lp M') ∧ TG (M' 128) (fun a b => cH (fun j => hR (M 122) w 0 (ej j) && (gv (ej j) a == b)) 120) ∧ ∀ z, z ≠ 128 → M' z = M z := by
  generalize hg : M 122 = g at *
  rw [cH_eq (fun x => hR g w 0 x)]
  have hTe : ∀ r, TG r (fun a b => cH (fun x => permB x && (hR g w 0 x && (gv x a == b))) 3125) → TG r (fun a b => cH (fun j => hR g w 0 (ej j) && (gv (ej j) a == b)) 120) := fun r h a ha b hb => by
    rw [h a ha b hb]
    dsimp only
    rw [cH_eq (fun x => hR g w 0 x && (gv x a == b))]
  have L2 : ∀ k x fuel (M1 : Mem), x + k = 3125 → k < fuel → (∀ z, z ≠ 128 → M1 z = M z) → TG (M1 128) (fun a b => cH (fun x => permB x && (hR g w 0 x && (gv x a == b))) x) → ∃ M', fxX10_findJoins_b25 fuel (some 121) (nI (cH (fun x => permB x && hR g w 0 x) x)) (nI x) (hp lp M1) = some (nI (cH (fun x => permB x && hR g w 0 x) 3125), hp lp M') ∧ TG (M' 128) (fun a b => cH (fun x => permB x && (hR g w 0 x && (gv x a == b))) 3125) ∧ ∀ z, z ≠ 128 → M' z = M z := by
    intro k
    induction k with
    | zero =>
      intro x fuel M1 hx hf hr hT
      obtain ⟨fuel, rfl⟩ : ∃ f, fuel = f + 1 := ⟨fuel - 1, by omega⟩
      obtain rfl : x = 3125 := by omega
      refine ⟨M1, ?_, hT, hr⟩
      simp only [fxX10_findJoins_b25, show ((3125 : Int32) ≤ nI 3125) = True from by decide, ↓reduceIte, if_true, if_false, Bool.true_eq_false, Bool.false_eq_true, eq_self, reduceCtorEq]
    | succ k ih =>
      intro x fuel M1 hx hf hr hT
      obtain ⟨fuel, rfl⟩ : ∃ f, fuel = f + 1 := ⟨fuel - 1, by omega⟩
      have hle : ((3125 : Int32) ≤ nI x) = False := zle (n := 3125) (by omega) (by decide)
      have e122 : M1 122 = g := by rw [hr 122 (by decide)]; exact hg
      have hh := q_holdsJoin (lp := lp) (M := M1) (x := x) (by omega) hw (by rw [e122]; exact e4) (by rw [e122]; exact hW)
      rw [e122] at hh
      cases hb : (permB x && hR g w 0 x) with
      | false =>
        rw [hb] at hh
        obtain ⟨M', q⟩ := ih (x + 1) fuel M1 (by omega) (by omega) hr (fun a ha b hb' => by rw [hT a ha b hb']; dsimp only; rw [cH_s, ← Bool.and_assoc, hb]; rfl)
        rw [cH_s, hb, if_neg (by decide), Nat.add_zero] at q
        refine ⟨M', ?_, q.2⟩
        simp only [fxX10_findJoins_b25, fxX10_findJoins_b74, hle, am_gd_t, am_lt_e, am_bd_s, bi_0, bi_bz, bz0, bz1, nz2, nz10, nz100, hp_gi, hp_si, ↓reduceIte, if_true, if_false, Bool.true_eq_false, Bool.false_eq_true, eq_self, reduceCtorEq, zo0, zp0_0, zp0_1, zp0_2, zp0_4, zp0_5, zp0_6, zp0_7, zp0_8, zp0_9, zp0_10, zo1, zp1_0, zp1_5, zp1_6, zp1_9, zo16, zp16_0, zp16_5, zp16_6, zp16_9, zo31, zp31_0, zp31_5, zp31_6, zp31_9, zo46, zp46_0, zp46_1, zp46_2, zo79, zp79_0, zo83, zp83_0, zp83_1, zp83_2, zo87, zp87_0, zp87_1, zo121, zp121_0, zp121_1, zp121_2, zp121_4, zp121_5, zp121_6, zp121_7, zp121_8, zp121_16, zp121_17, zp121_18, zp121_21, zp121_23, zp121_24, zp121_25, zp121_26, zp121_27, zp121_28, zp121_29, zp121_30, zp121_31, zp121_32, zp121_33, zp121_34, zp79_2, zx2, zx13, zx14, zx15, zx17, zx28, zx29, zx30, zx32, zx43, zx44, zx45, zx47, zx78, zx80, zx84, zx85, zx86, zx88, zx89, zx90, zx99, zx120, zx122, zx123, zx124, zx125, zx126, zx127, zx128, zx129, zx130, zx131, zx132, zx133, zx134, zx135, zx136, zx137, zx138, zx139, zx140, zx141, zx142, zx143, zx144, zx145, zg2, zg17, zg32, zgo3, zgo18, zgo33, zl47, zlo, zlp, zlx, zs90, zso, zsp, zsx, zt99, zto, ztp1, ztp2, ztgo, ztso, ztsp, ztsx, zc0, zi0, zc1, zi1, zc2, zi2, zc3, zi3, zc4, zi4, zc5, zi5, hh, nI_1]
        exact q.1
      | true =>
        rw [hb] at hh
        obtain ⟨M3, p1, p2, p3⟩ := find_in2 (lp := lp) (x := x) (n := nI (cH (fun x => permB x && hR g w 0 x) x + 1)) (c := fun a b => cH (fun x => permB x && (hR g w 0 x && (gv x a == b))) x) (by omega) (fxX10_findJoins_b25 fuel) 5 0 am_F M1 (by omega) (by unfold am_F; omega) (fun a ha b hb' => by
          rw [hT a ha b hb']
          dsimp only
          rw [if_neg (by omega), Nat.add_zero])
        obtain ⟨M', q⟩ := ih (x + 1) fuel M3 (by omega) (by omega) (fun z hz => by rw [p3 z hz, hr z hz]) (fun a ha b hb' => by
          rw [p2 a ha b hb']
          dsimp only
          rw [cH_s, ← Bool.and_assoc, hb, Bool.true_and]
          congr 2
          by_cases q : gv x a = b
          · rw [if_pos q, if_pos (beq_iff_eq.mpr q)]
          · rw [if_neg q, if_neg (fun x => q (beq_iff_eq.mp x))])
        rw [cH_s, hb, if_pos rfl] at q
        refine ⟨M', ?_, q.2⟩
        simp only [fxX10_findJoins_b25, hle, am_gd_t, am_lt_e, am_bd_s, bi_0, bi_bz, bz0, bz1, nz2, nz10, nz100, hp_gi, hp_si, ↓reduceIte, if_true, if_false, Bool.true_eq_false, Bool.false_eq_true, eq_self, reduceCtorEq, zo0, zp0_0, zp0_1, zp0_2, zp0_4, zp0_5, zp0_6, zp0_7, zp0_8, zp0_9, zp0_10, zo1, zp1_0, zp1_5, zp1_6, zp1_9, zo16, zp16_0, zp16_5, zp16_6, zp16_9, zo31, zp31_0, zp31_5, zp31_6, zp31_9, zo46, zp46_0, zp46_1, zp46_2, zo79, zp79_0, zo83, zp83_0, zp83_1, zp83_2, zo87, zp87_0, zp87_1, zo121, zp121_0, zp121_1, zp121_2, zp121_4, zp121_5, zp121_6, zp121_7, zp121_8, zp121_16, zp121_17, zp121_18, zp121_21, zp121_23, zp121_24, zp121_25, zp121_26, zp121_27, zp121_28, zp121_29, zp121_30, zp121_31, zp121_32, zp121_33, zp121_34, zp79_2, zx2, zx13, zx14, zx15, zx17, zx28, zx29, zx30, zx32, zx43, zx44, zx45, zx47, zx78, zx80, zx84, zx85, zx86, zx88, zx89, zx90, zx99, zx120, zx122, zx123, zx124, zx125, zx126, zx127, zx128, zx129, zx130, zx131, zx132, zx133, zx134, zx135, zx136, zx137, zx138, zx139, zx140, zx141, zx142, zx143, zx144, zx145, zg2, zg17, zg32, zgo3, zgo18, zgo33, zl47, zlo, zlp, zlx, zs90, zso, zsp, zsx, zt99, zto, ztp1, ztp2, ztgo, ztso, ztsp, ztsx, zc0, zi0, zc1, zi1, zc2, zi2, zc3, zi3, zc4, zi4, zc5, zi5, hh, nI_1]
        rw [show (0 : Int32) = nI 0 from rfl, p1]
        exact q.1
  have L1 : ∀ k i fuel (M1 : Mem), i + k = 25 → k < fuel → (∀ z, z ≠ 128 → M1 z = M z) → (∀ x, x < i → M1 128 x = 0) → ∃ M', fxX10_findJoins_b2 fuel (some 121) (nI i) (hp lp M1) = some (nI (cH (fun x => permB x && hR g w 0 x) 3125), hp lp M') ∧ TG (M' 128) (fun a b => cH (fun x => permB x && (hR g w 0 x && (gv x a == b))) 3125) ∧ ∀ z, z ≠ 128 → M' z = M z := by
    intro k
    induction k with
    | zero =>
      intro i fuel M1 hi hf hr h0
      obtain ⟨fuel, rfl⟩ : ∃ f, fuel = f + 1 := ⟨fuel - 1, by omega⟩
      obtain rfl : i = 25 := by omega
      obtain ⟨M', q⟩ := L2 3125 0 am_F M1 (by omega) (by unfold am_F; omega) hr (fun a ha b hb => h0 _ (by omega))
      refine ⟨M', ?_, q.2⟩
      simp only [fxX10_findJoins_b2, am_gd_t, am_lt_e, am_bd_s, bi_0, bi_bz, bz0, bz1, nz2, nz10, nz100, hp_gi, hp_si, ↓reduceIte, if_true, if_false, Bool.true_eq_false, Bool.false_eq_true, eq_self, reduceCtorEq, zo0, zp0_0, zp0_1, zp0_2, zp0_4, zp0_5, zp0_6, zp0_7, zp0_8, zp0_9, zp0_10, zo1, zp1_0, zp1_5, zp1_6, zp1_9, zo16, zp16_0, zp16_5, zp16_6, zp16_9, zo31, zp31_0, zp31_5, zp31_6, zp31_9, zo46, zp46_0, zp46_1, zp46_2, zo79, zp79_0, zo83, zp83_0, zp83_1, zp83_2, zo87, zp87_0, zp87_1, zo121, zp121_0, zp121_1, zp121_2, zp121_4, zp121_5, zp121_6, zp121_7, zp121_8, zp121_16, zp121_17, zp121_18, zp121_21, zp121_23, zp121_24, zp121_25, zp121_26, zp121_27, zp121_28, zp121_29, zp121_30, zp121_31, zp121_32, zp121_33, zp121_34, zp79_2, zx2, zx13, zx14, zx15, zx17, zx28, zx29, zx30, zx32, zx43, zx44, zx45, zx47, zx78, zx80, zx84, zx85, zx86, zx88, zx89, zx90, zx99, zx120, zx122, zx123, zx124, zx125, zx126, zx127, zx128, zx129, zx130, zx131, zx132, zx133, zx134, zx135, zx136, zx137, zx138, zx139, zx140, zx141, zx142, zx143, zx144, zx145, zg2, zg17, zg32, zgo3, zgo18, zgo33, zl47, zlo, zlp, zlx, zs90, zso, zsp, zsx, zt99, zto, ztp1, ztp2, ztgo, ztso, ztsp, ztsx, zc0, zi0, zc1, zi1, zc2, zi2, zc3, zi3, zc4, zi4, zc5, zi5, show ((25 : Int32) ≤ nI 25) = True from by decide]
      exact q.1
    | succ k ih =>
      intro i fuel M1 hi hf hr h0
      obtain ⟨fuel, rfl⟩ : ∃ f, fuel = f + 1 := ⟨fuel - 1, by omega⟩
      have h25 : ((25 : Int32) ≤ nI i) = False := zle (n := 25) (by omega) (by decide)
      obtain ⟨M', q⟩ := ih (i + 1) fuel (am_up M1 128 i 0) (by omega) (by omega) (fun z hz => by rw [am_up_ne hz, hr z hz]) (fun x hx => by
        rw [up_row]
        by_cases q : x = i
        · subst q; rw [up1_eq]
        · rw [up1_ne q]; exact h0 x (by omega))
      refine ⟨M', ?_, q.2⟩
      simp (disch := omega) only [fxX10_findJoins_b2, am_gd_t, am_lt_e, am_bd_s, bi_0, bi_bz, bz0, bz1, nz2, nz10, nz100, hp_gi, hp_si, ↓reduceIte, if_true, if_false, Bool.true_eq_false, Bool.false_eq_true, eq_self, reduceCtorEq, zo0, zp0_0, zp0_1, zp0_2, zp0_4, zp0_5, zp0_6, zp0_7, zp0_8, zp0_9, zp0_10, zo1, zp1_0, zp1_5, zp1_6, zp1_9, zo16, zp16_0, zp16_5, zp16_6, zp16_9, zo31, zp31_0, zp31_5, zp31_6, zp31_9, zo46, zp46_0, zp46_1, zp46_2, zo79, zp79_0, zo83, zp83_0, zp83_1, zp83_2, zo87, zp87_0, zp87_1, zo121, zp121_0, zp121_1, zp121_2, zp121_4, zp121_5, zp121_6, zp121_7, zp121_8, zp121_16, zp121_17, zp121_18, zp121_21, zp121_23, zp121_24, zp121_25, zp121_26, zp121_27, zp121_28, zp121_29, zp121_30, zp121_31, zp121_32, zp121_33, zp121_34, zp79_2, zx2, zx13, zx14, zx15, zx17, zx28, zx29, zx30, zx32, zx43, zx44, zx45, zx47, zx78, zx80, zx84, zx85, zx86, zx88, zx89, zx90, zx99, zx120, zx122, zx123, zx124, zx125, zx126, zx127, zx128, zx129, zx130, zx131, zx132, zx133, zx134, zx135, zx136, zx137, zx138, zx139, zx140, zx141, zx142, zx143, zx144, zx145, zg2, zg17, zg32, zgo3, zgo18, zgo33, zl47, zlo, zlp, zlx, zs90, zso, zsp, zsx, zt99, zto, ztp1, ztp2, ztgo, ztso, ztsp, ztsx, zc0, zi0, zc1, zi1, zc2, zi2, zc3, zi3, zc4, zi4, zc5, zi5, zin, zcl, nI_1, Bool.and_self, Bool.true_and, Bool.and_true, h25]
      exact q.1
  obtain ⟨M', q1, q2, q3⟩ := L1 25 0 am_F M (by omega) (by unfold am_F; omega) (fun _ _ => rfl) (fun x hx => by omega)
  refine ⟨M', ?_, hTe _ q2, q3⟩
  simp only [fxX10_findJoins, am_gd_t, am_lt_e, am_bd_s, bi_0, bi_bz, bz0, bz1, nz2, nz10, nz100, hp_gi, hp_si, ↓reduceIte, if_true, if_false, Bool.true_eq_false, Bool.false_eq_true, eq_self, reduceCtorEq, zo0, zp0_0, zp0_1, zp0_2, zp0_4, zp0_5, zp0_6, zp0_7, zp0_8, zp0_9, zp0_10, zo1, zp1_0, zp1_5, zp1_6, zp1_9, zo16, zp16_0, zp16_5, zp16_6, zp16_9, zo31, zp31_0, zp31_5, zp31_6, zp31_9, zo46, zp46_0, zp46_1, zp46_2, zo79, zp79_0, zo83, zp83_0, zp83_1, zp83_2, zo87, zp87_0, zp87_1, zo121, zp121_0, zp121_1, zp121_2, zp121_4, zp121_5, zp121_6, zp121_7, zp121_8, zp121_16, zp121_17, zp121_18, zp121_21, zp121_23, zp121_24, zp121_25, zp121_26, zp121_27, zp121_28, zp121_29, zp121_30, zp121_31, zp121_32, zp121_33, zp121_34, zp79_2, zx2, zx13, zx14, zx15, zx17, zx28, zx29, zx30, zx32, zx43, zx44, zx45, zx47, zx78, zx80, zx84, zx85, zx86, zx88, zx89, zx90, zx99, zx120, zx122, zx123, zx124, zx125, zx126, zx127, zx128, zx129, zx130, zx131, zx132, zx133, zx134, zx135, zx136, zx137, zx138, zx139, zx140, zx141, zx142, zx143, zx144, zx145, zg2, zg17, zg32, zgo3, zgo18, zgo33, zl47, zlo, zlp, zlx, zs90, zso, zsp, zsx, zt99, zto, ztp1, ztp2, ztgo, ztso, ztsp, ztsx, zc0, zi0, zc1, zi1, zc2, zi2, zc3, zi3, zc4, zi4, zc5, zi5]
  exact q1
theorem cH_le (P : Nat → Bool) (j : Nat) : cH P j ≤ j := by
  unfold cH
  have := List.countP_le_length (p := P) (l := List.range j)
  rw [List.length_range] at this
  exact this
/-- both have tallied -/
theorem joins_both {lp : Nat} {M : Mem} (hI : Inv lp M) : ∃ N C M1 M2, N ≤ 120 ∧ (∀ a b, C a b ≤ 120) ∧ (∀ a b b', b ≠ b' → C a b + C a b' ≤ N) ∧ fxX4_tally (some 87) (some 1) (hp lp M) = some ((), hp lp M1) ∧ M1 87 2 = nI N ∧ TG (M1 89) C ∧ fxX10_findJoins (some 121) (hp lp M1) = some (nI N, hp lp M2) ∧ TG (M2 128) C ∧ Inv lp M2 := by
  obtain ⟨hw, ew⟩ := hI.1.1.2.2.2.2.1.w
  have e7 : M 1 7 = nI (cn (M 122 4)) := hI.1.1.1.2.2.2.2.1.trans ew
  have hX := hI.2.2.2.2.2.2.1.2.2
  have hW := hI.1.1.2.2.1
  obtain ⟨M1, p1, p2, p3, p4⟩ := q_tally (lp := lp) (g := M 122) hw e7 hX hW
  have e122 : M1 122 = M 122 := p4 122 (by decide) (by decide)
  obtain ⟨M2, q1, q2, q3⟩ := q_findJoins (lp := lp) (M := M1) hw (by rw [e122]; exact ew) (fun i hi => by
    obtain ⟨a, b, h1, h2, h3, h4, h5⟩ := hW i hi
    exact ⟨a, b, h1, h2, by rw [e122]; exact h5⟩)
  rw [e122] at q1 q2
  have er : ∀ z, z ≠ 87 → z ≠ 89 → z ≠ 128 → M2 z = M z := fun z z1 z2 z3 => by rw [q3 z z3, p4 z z1 z2]
  have e121 : M2 121 = M 121 := er 121 (by decide) (by decide) (by decide)
  refine ⟨_, _, M1, M2, cH_le _ 120, fun a b => cH_le _ 120, fun a b b' hbb => ?_, p1, p2, p3, q1, q2, hI.scr (fun k hk hk2 => ?_) (by rw [e121]) (by rw [e121]) (by rw [e121])⟩
  · refine cH_two (fun x hx => ?_) (fun x hx => ?_) (fun x hx hy => ?_) 120
    · exact (Bool.and_eq_true _ _ ▸ hx).1
    · exact (Bool.and_eq_true _ _ ▸ hx).1
    · simp only [Bool.and_eq_true, beq_iff_eq] at hx hy
      exact hbb (hx.2.symm.trans hy.2)
  · unfold scrP at hk
    exact er k (by omega) (by omega) (by omega)
theorem P_joins : Pair (fxX9_joins (some 0)) (fxX10_joins (some 121)) := by
  intro lp M hI
  obtain ⟨N, C, M1, M2, h1, h2, h3, t1, t2, t3, t4, t5, t6⟩ := joins_both hI
  refine ⟨nI N, lp, M1, M2, ?_, ?_, t6⟩
  · simp only [fxX9_joins, am_gd_t, am_lt_e, am_bd_s, bi_0, bi_bz, bz0, bz1, nz2, nz10, nz100, hp_gi, hp_si, ↓reduceIte, if_true, if_false, Bool.true_eq_false, Bool.false_eq_true, eq_self, reduceCtorEq, zo0, zp0_0, zp0_1, zp0_2, zp0_4, zp0_5, zp0_6, zp0_7, zp0_8, zp0_9, zp0_10, zo1, zp1_0, zp1_5, zp1_6, zp1_9, zo16, zp16_0, zp16_5, zp16_6, zp16_9, zo31, zp31_0, zp31_5, zp31_6, zp31_9, zo46, zp46_0, zp46_1, zp46_2, zo79, zp79_0, zo83, zp83_0, zp83_1, zp83_2, zo87, zp87_0, zp87_1, zo121, zp121_0, zp121_1, zp121_2, zp121_4, zp121_5, zp121_6, zp121_7, zp121_8, zp121_16, zp121_17, zp121_18, zp121_21, zp121_23, zp121_24, zp121_25, zp121_26, zp121_27, zp121_28, zp121_29, zp121_30, zp121_31, zp121_32, zp121_33, zp121_34, zp79_2, zx2, zx13, zx14, zx15, zx17, zx28, zx29, zx30, zx32, zx43, zx44, zx45, zx47, zx78, zx80, zx84, zx85, zx86, zx88, zx89, zx90, zx99, zx120, zx122, zx123, zx124, zx125, zx126, zx127, zx128, zx129, zx130, zx131, zx132, zx133, zx134, zx135, zx136, zx137, zx138, zx139, zx140, zx141, zx142, zx143, zx144, zx145, zg2, zg17, zg32, zgo3, zgo18, zgo33, zl47, zlo, zlp, zlx, zs90, zso, zsp, zsx, zt99, zto, ztp1, ztp2, ztgo, ztso, ztsp, ztsx, zc0, zi0, zc1, zi1, zc2, zi2, zc3, zi3, zc4, zi4, zc5, zi5, t1, t2]
  · simp only [fxX10_joins, am_gd_t, am_lt_e, am_bd_s, bi_0, bi_bz, bz0, bz1, nz2, nz10, nz100, hp_gi, hp_si, ↓reduceIte, if_true, if_false, Bool.true_eq_false, Bool.false_eq_true, eq_self, reduceCtorEq, zo0, zp0_0, zp0_1, zp0_2, zp0_4, zp0_5, zp0_6, zp0_7, zp0_8, zp0_9, zp0_10, zo1, zp1_0, zp1_5, zp1_6, zp1_9, zo16, zp16_0, zp16_5, zp16_6, zp16_9, zo31, zp31_0, zp31_5, zp31_6, zp31_9, zo46, zp46_0, zp46_1, zp46_2, zo79, zp79_0, zo83, zp83_0, zp83_1, zp83_2, zo87, zp87_0, zp87_1, zo121, zp121_0, zp121_1, zp121_2, zp121_4, zp121_5, zp121_6, zp121_7, zp121_8, zp121_16, zp121_17, zp121_18, zp121_21, zp121_23, zp121_24, zp121_25, zp121_26, zp121_27, zp121_28, zp121_29, zp121_30, zp121_31, zp121_32, zp121_33, zp121_34, zp79_2, zx2, zx13, zx14, zx15, zx17, zx28, zx29, zx30, zx32, zx43, zx44, zx45, zx47, zx78, zx80, zx84, zx85, zx86, zx88, zx89, zx90, zx99, zx120, zx122, zx123, zx124, zx125, zx126, zx127, zx128, zx129, zx130, zx131, zx132, zx133, zx134, zx135, zx136, zx137, zx138, zx139, zx140, zx141, zx142, zx143, zx144, zx145, zg2, zg17, zg32, zgo3, zgo18, zgo33, zl47, zlo, zlp, zlx, zs90, zso, zsp, zsx, zt99, zto, ztp1, ztp2, ztgo, ztso, ztsp, ztsx, zc0, zi0, zc1, zi1, zc2, zi2, zc3, zi3, zc4, zi4, zc5, zi5, t4]
def suO (C : Nat → Nat) (N : Nat) : Nat → Nat → Option Nat
  | 0, _ => none
  | k + 1, r => if C r = N then some r else suO C N k (r + 1)
theorem su_none {C : Nat → Nat} {N r : Nat} (hN : 0 < N) (h : ∀ b, r ≠ b → C r + C b ≤ N) (hr : C r = N) : ∀ k b, r < b → suO C N k b = none := by
  intro k
  induction k with
  | zero => intro b _; rfl
  | succ k ih =>
    intro b hb
    unfold suO
    have := h b (by omega)
    rw [if_neg (by omega)]
    exact ih (b + 1) (by omega)
theorem su_c {lp l N : Nat} {M : Mem} {C : Nat → Nat → Nat} (hl : l < 5) (hN : N ≤ 120) (hN0 : 0 < N) (hC : ∀ a b, C a b ≤ 120) (e2 : M 87 2 = nI N) (hT : TG (M 89) C) : ∀ k r fuel, r + k = 5 → k < fuel → fxX4_meaningOf_b2 fuel (some 87) (nI l) (nI r) (hp lp M) = some ((suO (C l) N k r).elim (-1000000005) nI, hp lp M) := by
  intro k
  induction k with
  | zero =>
    intro r fuel hr hf
    obtain ⟨fuel, rfl⟩ : ∃ f, fuel = f + 1 := ⟨fuel - 1, by omega⟩
    obtain rfl : r = 5 := by omega
    simp only [fxX4_meaningOf_b2, n5', ↓reduceIte, if_true, if_false, Bool.true_eq_false, Bool.false_eq_true, eq_self, reduceCtorEq, suO, Option.elim_none]
  | succ k ih =>
    intro r fuel hr hf
    obtain ⟨fuel, rfl⟩ : ∃ f, fuel = f + 1 := ⟨fuel - 1, by omega⟩
    have hI := ih (r + 1) fuel (by omega) (by omega)
    have et := hT l hl r (by omega)
    have h0 : (nI N ≤ 0) = False := eq_false (nI_nle hN0 (by omega))
    unfold suO
    by_cases q : C l r = N
    · rw [if_pos q]
      rw [q] at et
      simp (disch := omega) only [fxX4_meaningOf_b2, n5, am_gd_t, am_lt_e, am_bd_s, bi_0, bi_bz, bz0, bz1, nz2, nz10, nz100, hp_gi, hp_si, ↓reduceIte, if_true, if_false, Bool.true_eq_false, Bool.false_eq_true, eq_self, reduceCtorEq, zo0, zp0_0, zp0_1, zp0_2, zp0_4, zp0_5, zp0_6, zp0_7, zp0_8, zp0_9, zp0_10, zo1, zp1_0, zp1_5, zp1_6, zp1_9, zo16, zp16_0, zp16_5, zp16_6, zp16_9, zo31, zp31_0, zp31_5, zp31_6, zp31_9, zo46, zp46_0, zp46_1, zp46_2, zo79, zp79_0, zo83, zp83_0, zp83_1, zp83_2, zo87, zp87_0, zp87_1, zo121, zp121_0, zp121_1, zp121_2, zp121_4, zp121_5, zp121_6, zp121_7, zp121_8, zp121_16, zp121_17, zp121_18, zp121_21, zp121_23, zp121_24, zp121_25, zp121_26, zp121_27, zp121_28, zp121_29, zp121_30, zp121_31, zp121_32, zp121_33, zp121_34, zp79_2, zx2, zx13, zx14, zx15, zx17, zx28, zx29, zx30, zx32, zx43, zx44, zx45, zx47, zx78, zx80, zx84, zx85, zx86, zx88, zx89, zx90, zx99, zx120, zx122, zx123, zx124, zx125, zx126, zx127, zx128, zx129, zx130, zx131, zx132, zx133, zx134, zx135, zx136, zx137, zx138, zx139, zx140, zx141, zx142, zx143, zx144, zx145, zg2, zg17, zg32, zgo3, zgo18, zgo33, zl47, zlo, zlp, zlx, zs90, zso, zsp, zsx, zt99, zto, ztp1, ztp2, ztgo, ztso, ztsp, ztsx, zc0, zi0, zc1, zi1, zc2, zi2, zc3, zi3, zc4, zi4, zc5, zi5, zin, zcl, nI_1, Bool.and_self, Bool.true_and, Bool.and_true, e2, h0, ix5, et, Option.elim_some]
    · rw [if_neg q, ← hI]
      have := hC l r
      have hne : (nI (C l r) = nI N) = False := zne q (by omega) (by omega)
      simp (disch := omega) only [fxX4_meaningOf_b2, fxX4_meaningOf_b33, n5, am_gd_t, am_lt_e, am_bd_s, bi_0, bi_bz, bz0, bz1, nz2, nz10, nz100, hp_gi, hp_si, ↓reduceIte, if_true, if_false, Bool.true_eq_false, Bool.false_eq_true, eq_self, reduceCtorEq, zo0, zp0_0, zp0_1, zp0_2, zp0_4, zp0_5, zp0_6, zp0_7, zp0_8, zp0_9, zp0_10, zo1, zp1_0, zp1_5, zp1_6, zp1_9, zo16, zp16_0, zp16_5, zp16_6, zp16_9, zo31, zp31_0, zp31_5, zp31_6, zp31_9, zo46, zp46_0, zp46_1, zp46_2, zo79, zp79_0, zo83, zp83_0, zp83_1, zp83_2, zo87, zp87_0, zp87_1, zo121, zp121_0, zp121_1, zp121_2, zp121_4, zp121_5, zp121_6, zp121_7, zp121_8, zp121_16, zp121_17, zp121_18, zp121_21, zp121_23, zp121_24, zp121_25, zp121_26, zp121_27, zp121_28, zp121_29, zp121_30, zp121_31, zp121_32, zp121_33, zp121_34, zp79_2, zx2, zx13, zx14, zx15, zx17, zx28, zx29, zx30, zx32, zx43, zx44, zx45, zx47, zx78, zx80, zx84, zx85, zx86, zx88, zx89, zx90, zx99, zx120, zx122, zx123, zx124, zx125, zx126, zx127, zx128, zx129, zx130, zx131, zx132, zx133, zx134, zx135, zx136, zx137, zx138, zx139, zx140, zx141, zx142, zx143, zx144, zx145, zg2, zg17, zg32, zgo3, zgo18, zgo33, zl47, zlo, zlp, zlx, zs90, zso, zsp, zsx, zt99, zto, ztp1, ztp2, ztgo, ztso, ztsp, ztsx, zc0, zi0, zc1, zi1, zc2, zi2, zc3, zi3, zc4, zi4, zc5, zi5, zin, zcl, nI_1, Bool.and_self, Bool.true_and, Bool.and_true, e2, h0, ix5, et, hne]
theorem su_m {lp l N : Nat} {M : Mem} {C : Nat → Nat → Nat} (hl : l < 5) (hN : N ≤ 120) (hN0 : 0 < N) (hC : ∀ a b, C a b ≤ 120) (h2 : ∀ a b b', b ≠ b' → C a b + C a b' ≤ N) (hT : TG (M 128) C) : ∀ k r fuel f, r + k = 5 → k < fuel → fxX10_sure_b21 fuel (some 121) (nI l) (nI N) f (nI r) (hp lp M) = some ((suO (C l) N k r).elim f nI, hp lp M) := by
  intro k
  induction k with
  | zero =>
    intro r fuel f hr hf
    obtain ⟨fuel, rfl⟩ : ∃ f, fuel = f + 1 := ⟨fuel - 1, by omega⟩
    obtain rfl : r = 5 := by omega
    simp only [fxX10_sure_b21, n5', ↓reduceIte, if_true, if_false, Bool.true_eq_false, Bool.false_eq_true, eq_self, reduceCtorEq, suO, Option.elim_none]
  | succ k ih =>
    intro r fuel f hr hf
    obtain ⟨fuel, rfl⟩ : ∃ f, fuel = f + 1 := ⟨fuel - 1, by omega⟩
    have et := hT l hl r (by omega)
    have h0 : (nI N ≤ 0) = False := eq_false (nI_nle hN0 (by omega))
    unfold suO
    by_cases q : C l r = N
    · rw [if_pos q]
      have hI := ih (r + 1) fuel (nI r) (by omega) (by omega)
      rw [su_none hN0 (fun b hb => h2 l r b hb) q k (r + 1) (by omega)] at hI
      rw [q] at et
      simp (disch := omega) only [fxX10_sure_b21, fxX10_sure_b52, n5, am_gd_t, am_lt_e, am_bd_s, bi_0, bi_bz, bz0, bz1, nz2, nz10, nz100, hp_gi, hp_si, ↓reduceIte, if_true, if_false, Bool.true_eq_false, Bool.false_eq_true, eq_self, reduceCtorEq, zo0, zp0_0, zp0_1, zp0_2, zp0_4, zp0_5, zp0_6, zp0_7, zp0_8, zp0_9, zp0_10, zo1, zp1_0, zp1_5, zp1_6, zp1_9, zo16, zp16_0, zp16_5, zp16_6, zp16_9, zo31, zp31_0, zp31_5, zp31_6, zp31_9, zo46, zp46_0, zp46_1, zp46_2, zo79, zp79_0, zo83, zp83_0, zp83_1, zp83_2, zo87, zp87_0, zp87_1, zo121, zp121_0, zp121_1, zp121_2, zp121_4, zp121_5, zp121_6, zp121_7, zp121_8, zp121_16, zp121_17, zp121_18, zp121_21, zp121_23, zp121_24, zp121_25, zp121_26, zp121_27, zp121_28, zp121_29, zp121_30, zp121_31, zp121_32, zp121_33, zp121_34, zp79_2, zx2, zx13, zx14, zx15, zx17, zx28, zx29, zx30, zx32, zx43, zx44, zx45, zx47, zx78, zx80, zx84, zx85, zx86, zx88, zx89, zx90, zx99, zx120, zx122, zx123, zx124, zx125, zx126, zx127, zx128, zx129, zx130, zx131, zx132, zx133, zx134, zx135, zx136, zx137, zx138, zx139, zx140, zx141, zx142, zx143, zx144, zx145, zg2, zg17, zg32, zgo3, zgo18, zgo33, zl47, zlo, zlp, zlx, zs90, zso, zsp, zsx, zt99, zto, ztp1, ztp2, ztgo, ztso, ztsp, ztsx, zc0, zi0, zc1, zi1, zc2, zi2, zc3, zi3, zc4, zi4, zc5, zi5, zin, zcl, nI_1, Bool.and_self, Bool.true_and, Bool.and_true, h0, ix5', et, hI, Option.elim_some, Option.elim_none]
    · rw [if_neg q, ← ih (r + 1) fuel f (by omega) (by omega)]
      have := hC l r
      have hne : (nI (C l r) = nI N) = False := zne q (by omega) (by omega)
      simp (disch := omega) only [fxX10_sure_b21, fxX10_sure_b52, n5, am_gd_t, am_lt_e, am_bd_s, bi_0, bi_bz, bz0, bz1, nz2, nz10, nz100, hp_gi, hp_si, ↓reduceIte, if_true, if_false, Bool.true_eq_false, Bool.false_eq_true, eq_self, reduceCtorEq, zo0, zp0_0, zp0_1, zp0_2, zp0_4, zp0_5, zp0_6, zp0_7, zp0_8, zp0_9, zp0_10, zo1, zp1_0, zp1_5, zp1_6, zp1_9, zo16, zp16_0, zp16_5, zp16_6, zp16_9, zo31, zp31_0, zp31_5, zp31_6, zp31_9, zo46, zp46_0, zp46_1, zp46_2, zo79, zp79_0, zo83, zp83_0, zp83_1, zp83_2, zo87, zp87_0, zp87_1, zo121, zp121_0, zp121_1, zp121_2, zp121_4, zp121_5, zp121_6, zp121_7, zp121_8, zp121_16, zp121_17, zp121_18, zp121_21, zp121_23, zp121_24, zp121_25, zp121_26, zp121_27, zp121_28, zp121_29, zp121_30, zp121_31, zp121_32, zp121_33, zp121_34, zp79_2, zx2, zx13, zx14, zx15, zx17, zx28, zx29, zx30, zx32, zx43, zx44, zx45, zx47, zx78, zx80, zx84, zx85, zx86, zx88, zx89, zx90, zx99, zx120, zx122, zx123, zx124, zx125, zx126, zx127, zx128, zx129, zx130, zx131, zx132, zx133, zx134, zx135, zx136, zx137, zx138, zx139, zx140, zx141, zx142, zx143, zx144, zx145, zg2, zg17, zg32, zgo3, zgo18, zgo33, zl47, zlo, zlp, zlx, zs90, zso, zsp, zsx, zt99, zto, ztp1, ztp2, ztgo, ztso, ztsp, ztsx, zc0, zi0, zc1, zi1, zc2, zi2, zc3, zi3, zc4, zi4, zc5, zi5, zin, zcl, nI_1, Bool.and_self, Bool.true_and, Bool.and_true, h0, ix5', et, hne]
theorem mean_0 {lp l : Nat} {M : Mem} (e2 : M 87 2 = 0) : ∀ k r fuel, r + k = 5 → k < fuel → fxX4_meaningOf_b2 fuel (some 87) (nI l) (nI r) (hp lp M) = some (-1000000005, hp lp M) := by
  intro k
  induction k with
  | zero =>
    intro r fuel hr hf
    obtain ⟨fuel, rfl⟩ : ∃ f, fuel = f + 1 := ⟨fuel - 1, by omega⟩
    obtain rfl : r = 5 := by omega
    simp only [fxX4_meaningOf_b2, n5', ↓reduceIte, if_true, if_false, Bool.true_eq_false, Bool.false_eq_true, eq_self, reduceCtorEq]
  | succ k ih =>
    intro r fuel hr hf
    obtain ⟨fuel, rfl⟩ : ∃ f, fuel = f + 1 := ⟨fuel - 1, by omega⟩
    have hI := ih (r + 1) fuel (by omega) (by omega)
    simp (disch := omega) only [fxX4_meaningOf_b2, fxX4_meaningOf_b33, n5, am_gd_t, am_lt_e, am_bd_s, bi_0, bi_bz, bz0, bz1, nz2, nz10, nz100, hp_gi, hp_si, ↓reduceIte, if_true, if_false, Bool.true_eq_false, Bool.false_eq_true, eq_self, reduceCtorEq, zo0, zp0_0, zp0_1, zp0_2, zp0_4, zp0_5, zp0_6, zp0_7, zp0_8, zp0_9, zp0_10, zo1, zp1_0, zp1_5, zp1_6, zp1_9, zo16, zp16_0, zp16_5, zp16_6, zp16_9, zo31, zp31_0, zp31_5, zp31_6, zp31_9, zo46, zp46_0, zp46_1, zp46_2, zo79, zp79_0, zo83, zp83_0, zp83_1, zp83_2, zo87, zp87_0, zp87_1, zo121, zp121_0, zp121_1, zp121_2, zp121_4, zp121_5, zp121_6, zp121_7, zp121_8, zp121_16, zp121_17, zp121_18, zp121_21, zp121_23, zp121_24, zp121_25, zp121_26, zp121_27, zp121_28, zp121_29, zp121_30, zp121_31, zp121_32, zp121_33, zp121_34, zp79_2, zx2, zx13, zx14, zx15, zx17, zx28, zx29, zx30, zx32, zx43, zx44, zx45, zx47, zx78, zx80, zx84, zx85, zx86, zx88, zx89, zx90, zx99, zx120, zx122, zx123, zx124, zx125, zx126, zx127, zx128, zx129, zx130, zx131, zx132, zx133, zx134, zx135, zx136, zx137, zx138, zx139, zx140, zx141, zx142, zx143, zx144, zx145, zg2, zg17, zg32, zgo3, zgo18, zgo33, zl47, zlo, zlp, zlx, zs90, zso, zsp, zsx, zt99, zto, ztp1, ztp2, ztgo, ztso, ztsp, ztsx, zc0, zi0, zc1, zi1, zc2, zi2, zc3, zi3, zc4, zi4, zc5, zi5, zin, zcl, nI_1, Bool.and_self, Bool.true_and, Bool.and_true, e2, Int32.le_refl, hI]
theorem P_sure (a : Int32) : Pair (fxX9_sure (some 0) a) (fxX10_sure (some 121) a) := by
  intro lp M hI
  cases ha : iw a 0 4 with
  | false => exact ⟨-1000000001, lp, M, M, by simp only [fxX9_sure, am_gd_t, am_lt_e, am_bd_s, bi_0, bi_bz, bz0, bz1, nz2, nz10, nz100, hp_gi, hp_si, ↓reduceIte, if_true, if_false, Bool.true_eq_false, Bool.false_eq_true, eq_self, reduceCtorEq, q_isWord, ha], by simp only [fxX10_sure, am_gd_t, am_lt_e, am_bd_s, bi_0, bi_bz, bz0, bz1, nz2, nz10, nz100, hp_gi, hp_si, ↓reduceIte, if_true, if_false, Bool.true_eq_false, Bool.false_eq_true, eq_self, reduceCtorEq, q_misWord, ha], hI⟩
  | true =>
    obtain ⟨l, hl, rfl⟩ := iw_lit 4 (b := 4) rfl (by decide) ha
    obtain ⟨N, C, M1, M2, h1, h2, h3, t1, t2, t3, t4, t5, t6⟩ := joins_both hI
    rcases Nat.eq_zero_or_pos N with hN | hN
    · subst hN
      refine ⟨-1000000005, lp, M1, M2, ?_, ?_, t6⟩
      · have := mean_0 (lp := lp) (l := l) (M := M1) t2 5 0 am_F (by omega) (by unfold am_F; omega)
        have hm : fxX4_meaningOf (some 87) (nI l) (hp lp M1) = some (-1000000005, hp lp M1) := by
          simp only [fxX4_meaningOf, am_gd_t, am_lt_e, am_bd_s, bi_0, bi_bz, bz0, bz1, nz2, nz10, nz100, hp_gi, hp_si]
          exact this
        simp only [fxX9_sure, am_gd_t, am_lt_e, am_bd_s, bi_0, bi_bz, bz0, bz1, nz2, nz10, nz100, hp_gi, hp_si, ↓reduceIte, if_true, if_false, Bool.true_eq_false, Bool.false_eq_true, eq_self, reduceCtorEq, zo0, zp0_0, zp0_1, zp0_2, zp0_4, zp0_5, zp0_6, zp0_7, zp0_8, zp0_9, zp0_10, zo1, zp1_0, zp1_5, zp1_6, zp1_9, zo16, zp16_0, zp16_5, zp16_6, zp16_9, zo31, zp31_0, zp31_5, zp31_6, zp31_9, zo46, zp46_0, zp46_1, zp46_2, zo79, zp79_0, zo83, zp83_0, zp83_1, zp83_2, zo87, zp87_0, zp87_1, zo121, zp121_0, zp121_1, zp121_2, zp121_4, zp121_5, zp121_6, zp121_7, zp121_8, zp121_16, zp121_17, zp121_18, zp121_21, zp121_23, zp121_24, zp121_25, zp121_26, zp121_27, zp121_28, zp121_29, zp121_30, zp121_31, zp121_32, zp121_33, zp121_34, zp79_2, zx2, zx13, zx14, zx15, zx17, zx28, zx29, zx30, zx32, zx43, zx44, zx45, zx47, zx78, zx80, zx84, zx85, zx86, zx88, zx89, zx90, zx99, zx120, zx122, zx123, zx124, zx125, zx126, zx127, zx128, zx129, zx130, zx131, zx132, zx133, zx134, zx135, zx136, zx137, zx138, zx139, zx140, zx141, zx142, zx143, zx144, zx145, zg2, zg17, zg32, zgo3, zgo18, zgo33, zl47, zlo, zlp, zlx, zs90, zso, zsp, zsx, zt99, zto, ztp1, ztp2, ztgo, ztso, ztsp, ztsx, zc0, zi0, zc1, zi1, zc2, zi2, zc3, zi3, zc4, zi4, zc5, zi5, q_isWord, ha, t1, hm]
      · simp only [fxX10_sure, am_gd_t, am_lt_e, am_bd_s, bi_0, bi_bz, bz0, bz1, nz2, nz10, nz100, hp_gi, hp_si, ↓reduceIte, if_true, if_false, Bool.true_eq_false, Bool.false_eq_true, eq_self, reduceCtorEq, zo0, zp0_0, zp0_1, zp0_2, zp0_4, zp0_5, zp0_6, zp0_7, zp0_8, zp0_9, zp0_10, zo1, zp1_0, zp1_5, zp1_6, zp1_9, zo16, zp16_0, zp16_5, zp16_6, zp16_9, zo31, zp31_0, zp31_5, zp31_6, zp31_9, zo46, zp46_0, zp46_1, zp46_2, zo79, zp79_0, zo83, zp83_0, zp83_1, zp83_2, zo87, zp87_0, zp87_1, zo121, zp121_0, zp121_1, zp121_2, zp121_4, zp121_5, zp121_6, zp121_7, zp121_8, zp121_16, zp121_17, zp121_18, zp121_21, zp121_23, zp121_24, zp121_25, zp121_26, zp121_27, zp121_28, zp121_29, zp121_30, zp121_31, zp121_32, zp121_33, zp121_34, zp79_2, zx2, zx13, zx14, zx15, zx17, zx28, zx29, zx30, zx32, zx43, zx44, zx45, zx47, zx78, zx80, zx84, zx85, zx86, zx88, zx89, zx90, zx99, zx120, zx122, zx123, zx124, zx125, zx126, zx127, zx128, zx129, zx130, zx131, zx132, zx133, zx134, zx135, zx136, zx137, zx138, zx139, zx140, zx141, zx142, zx143, zx144, zx145, zg2, zg17, zg32, zgo3, zgo18, zgo33, zl47, zlo, zlp, zlx, zs90, zso, zsp, zsx, zt99, zto, ztp1, ztp2, ztgo, ztso, ztsp, ztsx, zc0, zi0, zc1, zi1, zc2, zi2, zc3, zi3, zc4, zi4, zc5, zi5, q_misWord, ha, t4]
        rfl
    · refine ⟨(suO (C l) N 5 0).elim (-1000000005) nI, lp, M1, M2, ?_, ?_, t6⟩
      · have := su_c (lp := lp) (l := l) (by omega) h1 hN h2 t2 t3 5 0 am_F (by omega) (by unfold am_F; omega)
        have hm : fxX4_meaningOf (some 87) (nI l) (hp lp M1) = some ((suO (C l) N 5 0).elim (-1000000005) nI, hp lp M1) := by
          simp only [fxX4_meaningOf, am_gd_t, am_lt_e, am_bd_s, bi_0, bi_bz, bz0, bz1, nz2, nz10, nz100, hp_gi, hp_si]
          exact this
        simp only [fxX9_sure, am_gd_t, am_lt_e, am_bd_s, bi_0, bi_bz, bz0, bz1, nz2, nz10, nz100, hp_gi, hp_si, ↓reduceIte, if_true, if_false, Bool.true_eq_false, Bool.false_eq_true, eq_self, reduceCtorEq, zo0, zp0_0, zp0_1, zp0_2, zp0_4, zp0_5, zp0_6, zp0_7, zp0_8, zp0_9, zp0_10, zo1, zp1_0, zp1_5, zp1_6, zp1_9, zo16, zp16_0, zp16_5, zp16_6, zp16_9, zo31, zp31_0, zp31_5, zp31_6, zp31_9, zo46, zp46_0, zp46_1, zp46_2, zo79, zp79_0, zo83, zp83_0, zp83_1, zp83_2, zo87, zp87_0, zp87_1, zo121, zp121_0, zp121_1, zp121_2, zp121_4, zp121_5, zp121_6, zp121_7, zp121_8, zp121_16, zp121_17, zp121_18, zp121_21, zp121_23, zp121_24, zp121_25, zp121_26, zp121_27, zp121_28, zp121_29, zp121_30, zp121_31, zp121_32, zp121_33, zp121_34, zp79_2, zx2, zx13, zx14, zx15, zx17, zx28, zx29, zx30, zx32, zx43, zx44, zx45, zx47, zx78, zx80, zx84, zx85, zx86, zx88, zx89, zx90, zx99, zx120, zx122, zx123, zx124, zx125, zx126, zx127, zx128, zx129, zx130, zx131, zx132, zx133, zx134, zx135, zx136, zx137, zx138, zx139, zx140, zx141, zx142, zx143, zx144, zx145, zg2, zg17, zg32, zgo3, zgo18, zgo33, zl47, zlo, zlp, zlx, zs90, zso, zsp, zsx, zt99, zto, ztp1, ztp2, ztgo, ztso, ztsp, ztsx, zc0, zi0, zc1, zi1, zc2, zi2, zc3, zi3, zc4, zi4, zc5, zi5, q_isWord, ha, t1, hm]
      · simp only [fxX10_sure, am_gd_t, am_lt_e, am_bd_s, bi_0, bi_bz, bz0, bz1, nz2, nz10, nz100, hp_gi, hp_si, ↓reduceIte, if_true, if_false, Bool.true_eq_false, Bool.false_eq_true, eq_self, reduceCtorEq, zo0, zp0_0, zp0_1, zp0_2, zp0_4, zp0_5, zp0_6, zp0_7, zp0_8, zp0_9, zp0_10, zo1, zp1_0, zp1_5, zp1_6, zp1_9, zo16, zp16_0, zp16_5, zp16_6, zp16_9, zo31, zp31_0, zp31_5, zp31_6, zp31_9, zo46, zp46_0, zp46_1, zp46_2, zo79, zp79_0, zo83, zp83_0, zp83_1, zp83_2, zo87, zp87_0, zp87_1, zo121, zp121_0, zp121_1, zp121_2, zp121_4, zp121_5, zp121_6, zp121_7, zp121_8, zp121_16, zp121_17, zp121_18, zp121_21, zp121_23, zp121_24, zp121_25, zp121_26, zp121_27, zp121_28, zp121_29, zp121_30, zp121_31, zp121_32, zp121_33, zp121_34, zp79_2, zx2, zx13, zx14, zx15, zx17, zx28, zx29, zx30, zx32, zx43, zx44, zx45, zx47, zx78, zx80, zx84, zx85, zx86, zx88, zx89, zx90, zx99, zx120, zx122, zx123, zx124, zx125, zx126, zx127, zx128, zx129, zx130, zx131, zx132, zx133, zx134, zx135, zx136, zx137, zx138, zx139, zx140, zx141, zx142, zx143, zx144, zx145, zg2, zg17, zg32, zgo3, zgo18, zgo33, zl47, zlo, zlp, zlx, zs90, zso, zsp, zsx, zt99, zto, ztp1, ztp2, ztgo, ztso, ztsp, ztsx, zc0, zi0, zc1, zi1, zc2, zi2, zc3, zi3, zc4, zi4, zc5, zi5, q_misWord, ha, t4]
        exact su_m (lp := lp) (l := l) (by omega) h1 hN h2 h3 t5 5 0 am_F (-1000000005) (by omega) (by unfold am_F; omega)
def wsK (C : Nat → Nat) : Nat → Nat → Nat → Nat
  | 0, _, acc => acc
  | k + 1, r, acc => wsK C k (r + 1) (max acc (C r))
def wrS (C : Nat → Nat → Nat) (l : Nat) : Nat := wsK (C l) 5 0 0
theorem wsK_le {C : Nat → Nat} (hC : ∀ b, C b ≤ 120) : ∀ k r acc, acc ≤ 120 → wsK C k r acc ≤ 120 := by
  intro k
  induction k with
  | zero => intro r acc h; exact h
  | succ k ih =>
    intro r acc h
    unfold wsK
    have := hC r
    exact ih (r + 1) _ (by omega)
theorem q_worstOf {lp l : Nat} {M : Mem} {C : Nat → Nat → Nat} (hl : l < 5) (hC : ∀ a b, C a b ≤ 120) (hT : TG (M 89) C) : fxX4_worstOf (some 87) (nI l) (hp lp M) = some (nI (wrS C l), hp lp M) := by
  have L : ∀ k r fuel acc, r + k = 5 → k < fuel → acc ≤ 120 → fxX4_worstOf_b4 fuel (some 87) (nI l) (nI acc) (nI r) (hp lp M) = some (nI (wsK (C l) k r acc), hp lp M) := by
    intro k
    induction k with
    | zero =>
      intro r fuel acc hr hf ha
      obtain ⟨fuel, rfl⟩ : ∃ f, fuel = f + 1 := ⟨fuel - 1, by omega⟩
      obtain rfl : r = 5 := by omega
      simp only [fxX4_worstOf_b4, n5', ↓reduceIte, if_true, if_false, Bool.true_eq_false, Bool.false_eq_true, eq_self, reduceCtorEq, wsK]
    | succ k ih =>
      intro r fuel acc hr hf ha
      obtain ⟨fuel, rfl⟩ : ∃ f, fuel = f + 1 := ⟨fuel - 1, by omega⟩
      have et := hT l hl r (by omega)
      have hc := hC l r
      unfold wsK
      rw [← ih (r + 1) fuel (max acc (C l r)) (by omega) (by omega) (by omega)]
      simp (disch := omega) only [fxX4_worstOf_b4, n5, am_gd_t, am_lt_e, am_bd_s, bi_0, bi_bz, bz0, bz1, nz2, nz10, nz100, hp_gi, hp_si, ↓reduceIte, if_true, if_false, Bool.true_eq_false, Bool.false_eq_true, eq_self, reduceCtorEq, zo0, zp0_0, zp0_1, zp0_2, zp0_4, zp0_5, zp0_6, zp0_7, zp0_8, zp0_9, zp0_10, zo1, zp1_0, zp1_5, zp1_6, zp1_9, zo16, zp16_0, zp16_5, zp16_6, zp16_9, zo31, zp31_0, zp31_5, zp31_6, zp31_9, zo46, zp46_0, zp46_1, zp46_2, zo79, zp79_0, zo83, zp83_0, zp83_1, zp83_2, zo87, zp87_0, zp87_1, zo121, zp121_0, zp121_1, zp121_2, zp121_4, zp121_5, zp121_6, zp121_7, zp121_8, zp121_16, zp121_17, zp121_18, zp121_21, zp121_23, zp121_24, zp121_25, zp121_26, zp121_27, zp121_28, zp121_29, zp121_30, zp121_31, zp121_32, zp121_33, zp121_34, zp79_2, zx2, zx13, zx14, zx15, zx17, zx28, zx29, zx30, zx32, zx43, zx44, zx45, zx47, zx78, zx80, zx84, zx85, zx86, zx88, zx89, zx90, zx99, zx120, zx122, zx123, zx124, zx125, zx126, zx127, zx128, zx129, zx130, zx131, zx132, zx133, zx134, zx135, zx136, zx137, zx138, zx139, zx140, zx141, zx142, zx143, zx144, zx145, zg2, zg17, zg32, zgo3, zgo18, zgo33, zl47, zlo, zlp, zlx, zs90, zso, zsp, zsx, zt99, zto, ztp1, ztp2, ztgo, ztso, ztsp, ztsx, zc0, zi0, zc1, zi1, zc2, zi2, zc3, zi3, zc4, zi4, zc5, zi5, zin, zcl, nI_1, Bool.and_self, Bool.true_and, Bool.and_true, ix5, et, mmax_nI]
  have := L 5 0 am_F 0 (by omega) (by unfold am_F; omega) (by omega)
  simp only [fxX4_worstOf, am_gd_t, am_lt_e, am_bd_s, bi_0, bi_bz, bz0, bz1, nz2, nz10, nz100, hp_gi, hp_si]
  exact this
def btS (C : Nat → Nat → Nat) : Nat → Nat → Nat → Nat
  | 0, _, t => t
  | k + 1, l, t => if wrS C t ≤ wrS C l then btS C k (l + 1) t else btS C k (l + 1) l
theorem bt_lt {C : Nat → Nat → Nat} : ∀ k l t, l + k = 5 → t < 5 → btS C k l t < 5 := by
  intro k
  induction k with
  | zero => intro l t _ h; exact h
  | succ k ih =>
    intro l t hl ht
    unfold btS
    split
    · exact ih _ _ (by omega) ht
    · exact ih _ _ (by omega) (by omega)
theorem q_betterTold {lp : Nat} {M : Mem} {C : Nat → Nat → Nat} (hC : ∀ a b, C a b ≤ 120) (hT : TG (M 89) C) : fxX4_betterTold (some 87) (hp lp M) = some (nI (btS C 4 1 0), hp lp M) := by
  have L : ∀ k l fuel t, l + k = 5 → k < fuel → t < 5 → fxX4_betterTold_b4 fuel (some 87) (nI t) (nI l) (hp lp M) = some (nI (btS C k l t), hp lp M) := by
    intro k
    induction k with
    | zero =>
      intro l fuel t hl hf ht
      obtain ⟨fuel, rfl⟩ : ∃ f, fuel = f + 1 := ⟨fuel - 1, by omega⟩
      obtain rfl : l = 5 := by omega
      simp only [fxX4_betterTold_b4, n5', ↓reduceIte, if_true, if_false, Bool.true_eq_false, Bool.false_eq_true, eq_self, reduceCtorEq, btS]
    | succ k ih =>
      intro l fuel t hl hf ht
      obtain ⟨fuel, rfl⟩ : ∃ f, fuel = f + 1 := ⟨fuel - 1, by omega⟩
      have w1 := q_worstOf (lp := lp) (show l < 5 by omega) hC hT
      have w2 := q_worstOf (lp := lp) ht hC hT
      have b1 : wrS C l ≤ 120 := wsK_le (hC l) 5 0 0 (by omega)
      have b2 : wrS C t ≤ 120 := wsK_le (hC t) 5 0 0 (by omega)
      unfold btS
      by_cases q : wrS C t ≤ wrS C l
      · rw [if_pos q, ← ih (l + 1) fuel t (by omega) (by omega) ht]
        simp (disch := omega) only [fxX4_betterTold_b4, fxX4_betterTold_b24, n5, am_gd_t, am_lt_e, am_bd_s, bi_0, bi_bz, bz0, bz1, nz2, nz10, nz100, hp_gi, hp_si, ↓reduceIte, if_true, if_false, Bool.true_eq_false, Bool.false_eq_true, eq_self, reduceCtorEq, zo0, zp0_0, zp0_1, zp0_2, zp0_4, zp0_5, zp0_6, zp0_7, zp0_8, zp0_9, zp0_10, zo1, zp1_0, zp1_5, zp1_6, zp1_9, zo16, zp16_0, zp16_5, zp16_6, zp16_9, zo31, zp31_0, zp31_5, zp31_6, zp31_9, zo46, zp46_0, zp46_1, zp46_2, zo79, zp79_0, zo83, zp83_0, zp83_1, zp83_2, zo87, zp87_0, zp87_1, zo121, zp121_0, zp121_1, zp121_2, zp121_4, zp121_5, zp121_6, zp121_7, zp121_8, zp121_16, zp121_17, zp121_18, zp121_21, zp121_23, zp121_24, zp121_25, zp121_26, zp121_27, zp121_28, zp121_29, zp121_30, zp121_31, zp121_32, zp121_33, zp121_34, zp79_2, zx2, zx13, zx14, zx15, zx17, zx28, zx29, zx30, zx32, zx43, zx44, zx45, zx47, zx78, zx80, zx84, zx85, zx86, zx88, zx89, zx90, zx99, zx120, zx122, zx123, zx124, zx125, zx126, zx127, zx128, zx129, zx130, zx131, zx132, zx133, zx134, zx135, zx136, zx137, zx138, zx139, zx140, zx141, zx142, zx143, zx144, zx145, zg2, zg17, zg32, zgo3, zgo18, zgo33, zl47, zlo, zlp, zlx, zs90, zso, zsp, zsx, zt99, zto, ztp1, ztp2, ztgo, ztso, ztsp, ztsx, zc0, zi0, zc1, zi1, zc2, zi2, zc3, zi3, zc4, zi4, zc5, zi5, w1, w2, zle', nI_1]
      · rw [if_neg q, ← ih (l + 1) fuel l (by omega) (by omega) (by omega)]
        simp (disch := omega) only [fxX4_betterTold_b4, fxX4_betterTold_b24, n5, am_gd_t, am_lt_e, am_bd_s, bi_0, bi_bz, bz0, bz1, nz2, nz10, nz100, hp_gi, hp_si, ↓reduceIte, if_true, if_false, Bool.true_eq_false, Bool.false_eq_true, eq_self, reduceCtorEq, zo0, zp0_0, zp0_1, zp0_2, zp0_4, zp0_5, zp0_6, zp0_7, zp0_8, zp0_9, zp0_10, zo1, zp1_0, zp1_5, zp1_6, zp1_9, zo16, zp16_0, zp16_5, zp16_6, zp16_9, zo31, zp31_0, zp31_5, zp31_6, zp31_9, zo46, zp46_0, zp46_1, zp46_2, zo79, zp79_0, zo83, zp83_0, zp83_1, zp83_2, zo87, zp87_0, zp87_1, zo121, zp121_0, zp121_1, zp121_2, zp121_4, zp121_5, zp121_6, zp121_7, zp121_8, zp121_16, zp121_17, zp121_18, zp121_21, zp121_23, zp121_24, zp121_25, zp121_26, zp121_27, zp121_28, zp121_29, zp121_30, zp121_31, zp121_32, zp121_33, zp121_34, zp79_2, zx2, zx13, zx14, zx15, zx17, zx28, zx29, zx30, zx32, zx43, zx44, zx45, zx47, zx78, zx80, zx84, zx85, zx86, zx88, zx89, zx90, zx99, zx120, zx122, zx123, zx124, zx125, zx126, zx127, zx128, zx129, zx130, zx131, zx132, zx133, zx134, zx135, zx136, zx137, zx138, zx139, zx140, zx141, zx142, zx143, zx144, zx145, zg2, zg17, zg32, zgo3, zgo18, zgo33, zl47, zlo, zlp, zlx, zs90, zso, zsp, zsx, zt99, zto, ztp1, ztp2, ztgo, ztso, ztsp, ztsx, zc0, zi0, zc1, zi1, zc2, zi2, zc3, zi3, zc4, zi4, zc5, zi5, w1, w2, zle, nI_1]
  have := L 4 1 am_F 0 (by omega) (by unfold am_F; omega) (by omega)
  simp only [fxX4_betterTold, am_gd_t, am_lt_e, am_bd_s, bi_0, bi_bz, bz0, bz1, nz2, nz10, nz100, hp_gi, hp_si]
  exact this
/-- the reference: one word's worst, then what comes of it -/
theorem bm_in {lp l : Nat} {M : Mem} {C : Nat → Nat → Nat} {what b ls : Int32} (hl : l < 5) (hC : ∀ a b, C a b ≤ 120) (hT : TG (M 128) C) (k29 : Option Nat → Int32 → Int32 → Int32 → Int32 → am_H → Option (Int32 × am_H)) : ∀ k r fuel acc, r + k = 5 → k < fuel → acc ≤ 120 → fxX10_better_b41 k29 fuel (some 121) what b ls (nI l) (nI acc) (nI r) (hp lp M) = (if b < 0 then fxX10_better_b99 k29 (some 121) what ls (nI l) (nI (wsK (C l) k r acc)) (hp lp M) else (if ls ≤ nI (wsK (C l) k r acc) then fxX10_better_b105 k29 (some 121) what ls (nI l) (nI (wsK (C l) k r acc)) b (hp lp M) else fxX10_better_b99 k29 (some 121) what ls (nI l) (nI (wsK (C l) k r acc)) (hp lp M))) := by
  intro k
  induction k with
  | zero =>
    intro r fuel acc hr hf ha
    obtain ⟨fuel, rfl⟩ : ∃ f, fuel = f + 1 := ⟨fuel - 1, by omega⟩
    obtain rfl : r = 5 := by omega
    simp only [fxX10_better_b41, n5', ↓reduceIte, if_true, if_false, Bool.true_eq_false, Bool.false_eq_true, eq_self, reduceCtorEq, wsK]
    rfl
  | succ k ih =>
    intro r fuel acc hr hf ha
    obtain ⟨fuel, rfl⟩ : ∃ f, fuel = f + 1 := ⟨fuel - 1, by omega⟩
    have et := hT l hl r (by omega)
    have hc := hC l r
    unfold wsK
    rw [← ih (r + 1) fuel (max acc (C l r)) (by omega) (by omega) (by omega)]
    by_cases q : C l r ≤ acc
    · rw [Nat.max_eq_left q]
      simp (disch := omega) only [fxX10_better_b41, fxX10_better_b81, n5, am_gd_t, am_lt_e, am_bd_s, bi_0, bi_bz, bz0, bz1, nz2, nz10, nz100, hp_gi, hp_si, ↓reduceIte, if_true, if_false, Bool.true_eq_false, Bool.false_eq_true, eq_self, reduceCtorEq, zo0, zp0_0, zp0_1, zp0_2, zp0_4, zp0_5, zp0_6, zp0_7, zp0_8, zp0_9, zp0_10, zo1, zp1_0, zp1_5, zp1_6, zp1_9, zo16, zp16_0, zp16_5, zp16_6, zp16_9, zo31, zp31_0, zp31_5, zp31_6, zp31_9, zo46, zp46_0, zp46_1, zp46_2, zo79, zp79_0, zo83, zp83_0, zp83_1, zp83_2, zo87, zp87_0, zp87_1, zo121, zp121_0, zp121_1, zp121_2, zp121_4, zp121_5, zp121_6, zp121_7, zp121_8, zp121_16, zp121_17, zp121_18, zp121_21, zp121_23, zp121_24, zp121_25, zp121_26, zp121_27, zp121_28, zp121_29, zp121_30, zp121_31, zp121_32, zp121_33, zp121_34, zp79_2, zx2, zx13, zx14, zx15, zx17, zx28, zx29, zx30, zx32, zx43, zx44, zx45, zx47, zx78, zx80, zx84, zx85, zx86, zx88, zx89, zx90, zx99, zx120, zx122, zx123, zx124, zx125, zx126, zx127, zx128, zx129, zx130, zx131, zx132, zx133, zx134, zx135, zx136, zx137, zx138, zx139, zx140, zx141, zx142, zx143, zx144, zx145, zg2, zg17, zg32, zgo3, zgo18, zgo33, zl47, zlo, zlp, zlx, zs90, zso, zsp, zsx, zt99, zto, ztp1, ztp2, ztgo, ztso, ztsp, ztsx, zc0, zi0, zc1, zi1, zc2, zi2, zc3, zi3, zc4, zi4, zc5, zi5, zin, zcl, nI_1, Bool.and_self, Bool.true_and, Bool.and_true, ix5', et, zle']
    · rw [Nat.max_eq_right (by omega)]
      simp (disch := omega) only [fxX10_better_b41, fxX10_better_b81, n5, am_gd_t, am_lt_e, am_bd_s, bi_0, bi_bz, bz0, bz1, nz2, nz10, nz100, hp_gi, hp_si, ↓reduceIte, if_true, if_false, Bool.true_eq_false, Bool.false_eq_true, eq_self, reduceCtorEq, zo0, zp0_0, zp0_1, zp0_2, zp0_4, zp0_5, zp0_6, zp0_7, zp0_8, zp0_9, zp0_10, zo1, zp1_0, zp1_5, zp1_6, zp1_9, zo16, zp16_0, zp16_5, zp16_6, zp16_9, zo31, zp31_0, zp31_5, zp31_6, zp31_9, zo46, zp46_0, zp46_1, zp46_2, zo79, zp79_0, zo83, zp83_0, zp83_1, zp83_2, zo87, zp87_0, zp87_1, zo121, zp121_0, zp121_1, zp121_2, zp121_4, zp121_5, zp121_6, zp121_7, zp121_8, zp121_16, zp121_17, zp121_18, zp121_21, zp121_23, zp121_24, zp121_25, zp121_26, zp121_27, zp121_28, zp121_29, zp121_30, zp121_31, zp121_32, zp121_33, zp121_34, zp79_2, zx2, zx13, zx14, zx15, zx17, zx28, zx29, zx30, zx32, zx43, zx44, zx45, zx47, zx78, zx80, zx84, zx85, zx86, zx88, zx89, zx90, zx99, zx120, zx122, zx123, zx124, zx125, zx126, zx127, zx128, zx129, zx130, zx131, zx132, zx133, zx134, zx135, zx136, zx137, zx138, zx139, zx140, zx141, zx142, zx143, zx144, zx145, zg2, zg17, zg32, zgo3, zgo18, zgo33, zl47, zlo, zlp, zlx, zs90, zso, zsp, zsx, zt99, zto, ztp1, ztp2, ztgo, ztso, ztsp, ztsx, zc0, zi0, zc1, zi1, zc2, zi2, zc3, zi3, zc4, zi4, zc5, zi5, zin, zcl, nI_1, Bool.and_self, Bool.true_and, Bool.and_true, ix5', et, zle]
theorem bm_go {lp : Nat} {M : Mem} {C : Nat → Nat → Nat} {what : Int32} (hC : ∀ a b, C a b ≤ 120) (hT : TG (M 128) C) : ∀ k l fuel t, l + k = 5 → k < fuel → t < l → fxX10_better_b29 fuel (some 121) what (nI t) (nI (wrS C t)) (nI l) (hp lp M) = some ((if what = 0 then nI (btS C k l t) else nI (wrS C (btS C k l t))), hp lp M) := by
  intro k
  induction k with
  | zero =>
    intro l fuel t hl hf ht
    obtain ⟨fuel, rfl⟩ : ∃ f, fuel = f + 1 := ⟨fuel - 1, by omega⟩
    obtain rfl : l = 5 := by omega
    simp only [fxX10_better_b29, n5', ↓reduceIte, if_true, if_false, Bool.true_eq_false, Bool.false_eq_true, eq_self, reduceCtorEq, btS]
    split <;> rfl
  | succ k ih =>
    intro l fuel t hl hf ht
    obtain ⟨fuel, rfl⟩ : ∃ f, fuel = f + 1 := ⟨fuel - 1, by omega⟩
    have b1 : wrS C l ≤ 120 := wsK_le (hC l) 5 0 0 (by omega)
    have b2 : wrS C t ≤ 120 := wsK_le (hC t) 5 0 0 (by omega)
    have hin := bm_in (lp := lp) (l := l) (what := what) (b := nI t) (ls := nI (wrS C t)) (by omega) hC hT (fxX10_better_b29 fuel) 5 0 am_F 0 (by omega) (by unfold am_F; omega) (by omega)
    rw [show wsK (C l) 5 0 0 = wrS C l from rfl] at hin
    unfold btS
    by_cases q : wrS C t ≤ wrS C l
    · rw [if_pos q, ← ih (l + 1) fuel t (by omega) (by omega) (by omega)]
      have hne : (nI t = nI l) = False := zne (by omega) (by omega) (by omega)
      simp only [fxX10_better_b29, n5 (show l < 5 by omega), am_gd_t, am_lt_e, am_bd_s, bi_0, bi_bz, bz0, bz1, nz2, nz10, nz100, hp_gi, hp_si, ↓reduceIte, if_true, if_false, Bool.true_eq_false, Bool.false_eq_true, eq_self, reduceCtorEq]
      refine hin.trans ?_
      simp (disch := omega) only [fxX10_better_b105, fxX10_better_b118, nlt0, zle', hne, am_gd_t, am_lt_e, am_bd_s, bi_0, bi_bz, bz0, bz1, nz2, nz10, nz100, hp_gi, hp_si, ↓reduceIte, if_true, if_false, Bool.true_eq_false, Bool.false_eq_true, eq_self, reduceCtorEq, nI_1]
    · rw [if_neg q, ← ih (l + 1) fuel l (by omega) (by omega) (by omega)]
      simp only [fxX10_better_b29, n5 (show l < 5 by omega), am_gd_t, am_lt_e, am_bd_s, bi_0, bi_bz, bz0, bz1, nz2, nz10, nz100, hp_gi, hp_si, ↓reduceIte, if_true, if_false, Bool.true_eq_false, Bool.false_eq_true, eq_self, reduceCtorEq]
      refine hin.trans ?_
      simp (disch := omega) only [fxX10_better_b99, fxX10_better_b105, fxX10_better_b118, nlt0, zle, am_gd_t, am_lt_e, am_bd_s, bi_0, bi_bz, bz0, bz1, nz2, nz10, nz100, hp_gi, hp_si, ↓reduceIte, if_true, if_false, Bool.true_eq_false, Bool.false_eq_true, eq_self, reduceCtorEq, nI_1]
theorem P_better (a : Int32) : Pair (fxX9_better (some 0) a) (fxX10_better (some 121) a) := by
  intro lp M hI
  cases ha : iw a 0 1 with
  | false => exact ⟨-1000000001, lp, M, M, by simp only [fxX9_better, am_gd_t, am_lt_e, am_bd_s, bi_0, bi_bz, bz0, bz1, nz2, nz10, nz100, hp_gi, hp_si, ↓reduceIte, if_true, if_false, Bool.true_eq_false, Bool.false_eq_true, eq_self, reduceCtorEq, q_within, ha], by simp only [fxX10_better, am_gd_t, am_lt_e, am_bd_s, bi_0, bi_bz, bz0, bz1, nz2, nz10, nz100, hp_gi, hp_si, ↓reduceIte, if_true, if_false, Bool.true_eq_false, Bool.false_eq_true, eq_self, reduceCtorEq, q_in, ha], hI⟩
  | true =>
    obtain ⟨N, C, M1, M2, h1, h2, h3, t1, t2, t3, t4, t5, t6⟩ := joins_both hI
    rcases Nat.eq_zero_or_pos N with hN | hN
    · subst hN
      refine ⟨-1000000005, lp, M1, M2, ?_, ?_, t6⟩
      · simp only [fxX9_better, am_gd_t, am_lt_e, am_bd_s, bi_0, bi_bz, bz0, bz1, nz2, nz10, nz100, hp_gi, hp_si, ↓reduceIte, if_true, if_false, Bool.true_eq_false, Bool.false_eq_true, eq_self, reduceCtorEq, zo0, zp0_0, zp0_1, zp0_2, zp0_4, zp0_5, zp0_6, zp0_7, zp0_8, zp0_9, zp0_10, zo1, zp1_0, zp1_5, zp1_6, zp1_9, zo16, zp16_0, zp16_5, zp16_6, zp16_9, zo31, zp31_0, zp31_5, zp31_6, zp31_9, zo46, zp46_0, zp46_1, zp46_2, zo79, zp79_0, zo83, zp83_0, zp83_1, zp83_2, zo87, zp87_0, zp87_1, zo121, zp121_0, zp121_1, zp121_2, zp121_4, zp121_5, zp121_6, zp121_7, zp121_8, zp121_16, zp121_17, zp121_18, zp121_21, zp121_23, zp121_24, zp121_25, zp121_26, zp121_27, zp121_28, zp121_29, zp121_30, zp121_31, zp121_32, zp121_33, zp121_34, zp79_2, zx2, zx13, zx14, zx15, zx17, zx28, zx29, zx30, zx32, zx43, zx44, zx45, zx47, zx78, zx80, zx84, zx85, zx86, zx88, zx89, zx90, zx99, zx120, zx122, zx123, zx124, zx125, zx126, zx127, zx128, zx129, zx130, zx131, zx132, zx133, zx134, zx135, zx136, zx137, zx138, zx139, zx140, zx141, zx142, zx143, zx144, zx145, zg2, zg17, zg32, zgo3, zgo18, zgo33, zl47, zlo, zlp, zlx, zs90, zso, zsp, zsx, zt99, zto, ztp1, ztp2, ztgo, ztso, ztsp, ztsx, zc0, zi0, zc1, zi1, zc2, zi2, zc3, zi3, zc4, zi4, zc5, zi5, q_within, ha, t1, t2, show (nI 0 = 0) = True from by decide]
      · simp only [fxX10_better, am_gd_t, am_lt_e, am_bd_s, bi_0, bi_bz, bz0, bz1, nz2, nz10, nz100, hp_gi, hp_si, ↓reduceIte, if_true, if_false, Bool.true_eq_false, Bool.false_eq_true, eq_self, reduceCtorEq, zo0, zp0_0, zp0_1, zp0_2, zp0_4, zp0_5, zp0_6, zp0_7, zp0_8, zp0_9, zp0_10, zo1, zp1_0, zp1_5, zp1_6, zp1_9, zo16, zp16_0, zp16_5, zp16_6, zp16_9, zo31, zp31_0, zp31_5, zp31_6, zp31_9, zo46, zp46_0, zp46_1, zp46_2, zo79, zp79_0, zo83, zp83_0, zp83_1, zp83_2, zo87, zp87_0, zp87_1, zo121, zp121_0, zp121_1, zp121_2, zp121_4, zp121_5, zp121_6, zp121_7, zp121_8, zp121_16, zp121_17, zp121_18, zp121_21, zp121_23, zp121_24, zp121_25, zp121_26, zp121_27, zp121_28, zp121_29, zp121_30, zp121_31, zp121_32, zp121_33, zp121_34, zp79_2, zx2, zx13, zx14, zx15, zx17, zx28, zx29, zx30, zx32, zx43, zx44, zx45, zx47, zx78, zx80, zx84, zx85, zx86, zx88, zx89, zx90, zx99, zx120, zx122, zx123, zx124, zx125, zx126, zx127, zx128, zx129, zx130, zx131, zx132, zx133, zx134, zx135, zx136, zx137, zx138, zx139, zx140, zx141, zx142, zx143, zx144, zx145, zg2, zg17, zg32, zgo3, zgo18, zgo33, zl47, zlo, zlp, zlx, zs90, zso, zsp, zsx, zt99, zto, ztp1, ztp2, ztgo, ztso, ztsp, ztsx, zc0, zi0, zc1, zi1, zc2, zi2, zc3, zi3, zc4, zi4, zc5, zi5, q_in, ha, t4, show (nI 0 = 0) = True from by decide]
    · have hne : (nI N = 0) = False := eq_false (nI_ne0 hN (by omega))
      have hb := q_betterTold (lp := lp) (M := M1) h2 t3
      have hlt := bt_lt (C := C) 4 1 0 (by omega) (by omega)
      have hw := q_worstOf (lp := lp) (M := M1) hlt h2 t3
      refine ⟨(if a = 0 then nI (btS C 4 1 0) else nI (wrS C (btS C 4 1 0))), lp, M1, M2, ?_, ?_, t6⟩
      · simp only [fxX9_better, am_gd_t, am_lt_e, am_bd_s, bi_0, bi_bz, bz0, bz1, nz2, nz10, nz100, hp_gi, hp_si, ↓reduceIte, if_true, if_false, Bool.true_eq_false, Bool.false_eq_true, eq_self, reduceCtorEq, zo0, zp0_0, zp0_1, zp0_2, zp0_4, zp0_5, zp0_6, zp0_7, zp0_8, zp0_9, zp0_10, zo1, zp1_0, zp1_5, zp1_6, zp1_9, zo16, zp16_0, zp16_5, zp16_6, zp16_9, zo31, zp31_0, zp31_5, zp31_6, zp31_9, zo46, zp46_0, zp46_1, zp46_2, zo79, zp79_0, zo83, zp83_0, zp83_1, zp83_2, zo87, zp87_0, zp87_1, zo121, zp121_0, zp121_1, zp121_2, zp121_4, zp121_5, zp121_6, zp121_7, zp121_8, zp121_16, zp121_17, zp121_18, zp121_21, zp121_23, zp121_24, zp121_25, zp121_26, zp121_27, zp121_28, zp121_29, zp121_30, zp121_31, zp121_32, zp121_33, zp121_34, zp79_2, zx2, zx13, zx14, zx15, zx17, zx28, zx29, zx30, zx32, zx43, zx44, zx45, zx47, zx78, zx80, zx84, zx85, zx86, zx88, zx89, zx90, zx99, zx120, zx122, zx123, zx124, zx125, zx126, zx127, zx128, zx129, zx130, zx131, zx132, zx133, zx134, zx135, zx136, zx137, zx138, zx139, zx140, zx141, zx142, zx143, zx144, zx145, zg2, zg17, zg32, zgo3, zgo18, zgo33, zl47, zlo, zlp, zlx, zs90, zso, zsp, zsx, zt99, zto, ztp1, ztp2, ztgo, ztso, ztsp, ztsx, zc0, zi0, zc1, zi1, zc2, zi2, zc3, zi3, zc4, zi4, zc5, zi5, q_within, ha, t1, t2, hne, hb, hw]
        split <;> rfl
      · simp only [fxX10_better, am_gd_t, am_lt_e, am_bd_s, bi_0, bi_bz, bz0, bz1, nz2, nz10, nz100, hp_gi, hp_si, ↓reduceIte, if_true, if_false, Bool.true_eq_false, Bool.false_eq_true, eq_self, reduceCtorEq, zo0, zp0_0, zp0_1, zp0_2, zp0_4, zp0_5, zp0_6, zp0_7, zp0_8, zp0_9, zp0_10, zo1, zp1_0, zp1_5, zp1_6, zp1_9, zo16, zp16_0, zp16_5, zp16_6, zp16_9, zo31, zp31_0, zp31_5, zp31_6, zp31_9, zo46, zp46_0, zp46_1, zp46_2, zo79, zp79_0, zo83, zp83_0, zp83_1, zp83_2, zo87, zp87_0, zp87_1, zo121, zp121_0, zp121_1, zp121_2, zp121_4, zp121_5, zp121_6, zp121_7, zp121_8, zp121_16, zp121_17, zp121_18, zp121_21, zp121_23, zp121_24, zp121_25, zp121_26, zp121_27, zp121_28, zp121_29, zp121_30, zp121_31, zp121_32, zp121_33, zp121_34, zp79_2, zx2, zx13, zx14, zx15, zx17, zx28, zx29, zx30, zx32, zx43, zx44, zx45, zx47, zx78, zx80, zx84, zx85, zx86, zx88, zx89, zx90, zx99, zx120, zx122, zx123, zx124, zx125, zx126, zx127, zx128, zx129, zx130, zx131, zx132, zx133, zx134, zx135, zx136, zx137, zx138, zx139, zx140, zx141, zx142, zx143, zx144, zx145, zg2, zg17, zg32, zgo3, zgo18, zgo33, zl47, zlo, zlp, zlx, zs90, zso, zsp, zsx, zt99, zto, ztp1, ztp2, ztgo, ztso, ztsp, ztsx, zc0, zi0, zc1, zi1, zc2, zi2, zc3, zi3, zc4, zi4, zc5, zi5, q_in, ha, t4, hne]
        have key : ∀ f, 4 < f → fxX10_better_b29 (f + 1) (some 121) a (-1) 0 (nI 0) (hp lp M2) = some ((if a = 0 then nI (btS C 4 1 0) else nI (wrS C (btS C 4 1 0))), hp lp M2) := by
          intro f hf
          have hin := bm_in (lp := lp) (l := 0) (what := a) (b := -1) (ls := 0) (M := M2) (C := C) (by omega) h2 t5 (fxX10_better_b29 f) 5 0 am_F 0 (by omega) (by unfold am_F; omega) (by omega)
          have hgo := bm_go (lp := lp) (M := M2) (C := C) (what := a) h2 t5 4 1 f 0 (by omega) (by omega) (by omega)
          rw [← hgo]
          simp only [fxX10_better_b29, n5 (show 0 < 5 by omega), am_gd_t, am_lt_e, am_bd_s, bi_0, bi_bz, bz0, bz1, nz2, nz10, nz100, hp_gi, hp_si, ↓reduceIte, if_true, if_false, Bool.true_eq_false, Bool.false_eq_true, eq_self, reduceCtorEq]
          refine hin.trans ?_
          simp (disch := omega) only [fxX10_better_b99, fxX10_better_b105, fxX10_better_b118, m1lt, am_gd_t, am_lt_e, am_bd_s, bi_0, bi_bz, bz0, bz1, nz2, nz10, nz100, hp_gi, hp_si, ↓reduceIte, if_true, if_false, Bool.true_eq_false, Bool.false_eq_true, eq_self, reduceCtorEq, nI_1]
          rfl
        exact key 3999 (by omega)
