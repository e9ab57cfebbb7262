/-! ===== joins: all of them, two ways ===== -/
def gv (x l : Nat) : Nat := x / 5 ^ l % 5
def ej (j : Nat) : Nat := rgt j 0 + 5 * rgt j 1 + 25 * rgt j 2 + 125 * rgt j 3 + 625 * rgt j 4
def mt (x : Nat) : Nat → Nat
  | 0 => 0
  | w + 1 => mt x w ||| 2 ^ gv x w
def permB (x : Nat) : Bool := mt x 5 == 31
set_option maxRecDepth 100000 in
theorem ej_gv : ∀ j, j < 120 → ∀ l, l < 5 → gv (ej j) l = rgt j l := by decide +kernel
set_option maxRecDepth 100000 in
theorem ej_perm : ((List.range 120).map ej).isPerm ((List.range 3125).filter permB) = true := by decide +kernel
theorem gv_lt (x l : Nat) : gv x l < 5 := Nat.mod_lt _ (by decide)
/-- whether all that were worn hold -/
def hR (g : Nat → Int32) : Nat → Nat → Nat → Bool
  | 0, _, _ => true
  | k + 1, i, x => (gv x (cn (g (6 + i)) / 10) == cn (g (6 + i)) % 10) && hR g k (i + 1) x
def cH (P : Nat → Bool) (j : Nat) : Nat := (List.range j).countP P
theorem cH_s (P : Nat → Bool) (j : Nat) : cH P (j + 1) = cH P j + (if P j = true then 1 else 0) := by
  unfold cH
  rw [List.range_succ, List.countP_append]
  simp [List.countP_cons]
/-- 120 joins, or those of 3125 rows that are joins -/
theorem cH_eq (P : Nat → Bool) : cH (fun j => P (ej j)) 120 = cH (fun x => permB x && P x) 3125 := by
  unfold cH
  have h1 : (List.range 120).countP (fun j => P (ej j)) = ((List.range 120).map ej).countP P := by rw [List.countP_map]; rfl
  rw [h1, (List.isPerm_iff.mp ej_perm).countP_eq, List.countP_filter]
  congr 1
  funext x
  exact Bool.and_comm _ _
theorem cH_two {P Q R : Nat → Bool} (h1 : ∀ x, Q x = true → P x = true) (h2 : ∀ x, R x = true → P x = true) (h3 : ∀ x, Q x = true → R x = true → False) : ∀ j, cH Q j + cH R j ≤ cH P j := by
  intro j
  induction j with
  | zero => exact Nat.le_refl _
  | succ j ih =>
    rw [cH_s, cH_s, cH_s]
    by_cases q : Q j = true
    · rw [if_pos q, if_pos (h1 j q), if_neg (fun r => h3 j q r)]; omega
    · rw [if_neg q]
      by_cases r : R j = true
      · rw [if_pos r, if_pos (h2 j r)]; omega
      · rw [if_neg r]
        split <;> omega
theorem ix5 (i j : Nat) : nI i * 5 + nI j = nI (5 * i + j) := by
  rw [show (5 : Int32) = nI 5 from rfl, pk_mul, nI_add, Nat.mul_comm]
theorem ix5' (i j : Nat) : 5 * nI i + nI j = nI (5 * i + j) := by
  rw [show (5 : Int32) = nI 5 from rfl, pk_mul, nI_add]
theorem n5 {i : Nat} (h : i < 5) : ((5 : Int32) ≤ nI i) = False := zle (n := 5) h (by decide)
theorem n5' : ((5 : Int32) ≤ nI 5) = True := by decide
/-- the table of who gives whom -/
def TG (r : Nat → Int32) (c : Nat → Nat → Nat) : Prop := ∀ l, l < 5 → ∀ b, b < 5 → r (5 * l + b) = nI (c l b)
theorem q_holds {lp j w : Nat} {M : Mem} {g : Nat → Int32} (hj : j < 120) (hw : w ≤ 10) (e7 : M 1 7 = nI w) (hX : ∀ j, j < 120 → ∀ l, l < 5 → M 88 (5 * j + l) = nI (rgt j l)) (hW : ∀ i, i < w → ∃ a b, a ≤ 4 ∧ b ≤ 4 ∧ M 13 i = nI a ∧ M 14 i = nI b ∧ g (6 + i) = nI (10 * a + b)) : fxX4_holds (some 87) (nI j) (some 1) (hp lp M) = some (bi (hR g w 0 (ej j)), hp lp M) := by
  have L : ∀ k i fuel, i + k = w → k < fuel → fxX4_holds_b2 fuel (some 87) (nI j) (some 1) (nI i) (hp lp M) = some (bi (hR g k i (ej j)), hp lp M) := by
    intro k
    induction k with
    | zero =>
      intro i fuel hi hf
      obtain ⟨fuel, rfl⟩ : ∃ f, fuel = f + 1 := ⟨fuel - 1, by omega⟩
      obtain rfl : i = w := by omega
      simp (disch := omega) only [fxX4_holds_b2, am_gd_t, am_lt_e, am_bd_s, bi_0, bi_bz, bz0, bz1, nz2, nz10, nz100, hp_gi, hp_si, ↓reduceIte, if_true, if_false, Bool.true_eq_false, Bool.false_eq_true, eq_self, reduceCtorEq, zo0, zp0_0, zp0_1, zp0_2, zp0_4, zp0_5, zp0_6, zp0_7, zp0_8, zp0_9, zp0_10, zo1, zp1_0, zp1_5, zp1_6, zp1_9, zo16, zp16_0, zp16_5, zp16_6, zp16_9, zo31, zp31_0, zp31_5, zp31_6, zp31_9, zo46, zp46_0, zp46_1, zp46_2, zo79, zp79_0, zo83, zp83_0, zp83_1, zp83_2, zo87, zp87_0, zp87_1, zo121, zp121_0, zp121_1, zp121_2, zp121_4, zp121_5, zp121_6, zp121_7, zp121_8, zp121_16, zp121_17, zp121_18, zp121_21, zp121_23, zp121_24, zp121_25, zp121_26, zp121_27, zp121_28, zp121_29, zp121_30, zp121_31, zp121_32, zp121_33, zp121_34, zp79_2, zx2, zx13, zx14, zx15, zx17, zx28, zx29, zx30, zx32, zx43, zx44, zx45, zx47, zx78, zx80, zx84, zx85, zx86, zx88, zx89, zx90, zx99, zx120, zx122, zx123, zx124, zx125, zx126, zx127, zx128, zx129, zx130, zx131, zx132, zx133, zx134, zx135, zx136, zx137, zx138, zx139, zx140, zx141, zx142, zx143, zx144, zx145, zg2, zg17, zg32, zgo3, zgo18, zgo33, zl47, zlo, zlp, zlx, zs90, zso, zsp, zsx, zt99, zto, ztp1, ztp2, ztgo, ztso, ztsp, ztsx, zc0, zi0, zc1, zi1, zc2, zi2, zc3, zi3, zc4, zi4, zc5, zi5, e7, zle', hR]
      rfl
    | succ k ih =>
      intro i fuel hi hf
      obtain ⟨fuel, rfl⟩ : ∃ f, fuel = f + 1 := ⟨fuel - 1, by omega⟩
      have hI := ih (i + 1) fuel (by omega) (by omega)
      obtain ⟨a, b, h1, h2, h3, h4, h5⟩ := hW i (by omega)
      have ex := hX j hj a (by omega)
      rw [← ej_gv j hj a (by omega)] at ex
      have hlt := gv_lt (ej j) a
      have ec : cn (g (6 + i)) = 10 * a + b := by rw [h5, cn_nI (by omega)]
      have e10 : cn (g (6 + i)) / 10 = a := by rw [ec]; omega
      have e11 : cn (g (6 + i)) % 10 = b := by rw [ec]; omega
      unfold hR
      rw [e10, e11]
      by_cases q : gv (ej j) a = b
      · rw [show (gv (ej j) a == b) = true from beq_iff_eq.mpr q, Bool.true_and, ← hI]
        rw [q] at ex
        simp (disch := omega) only [fxX4_holds_b2, am_gd_t, am_lt_e, am_bd_s, bi_0, bi_bz, bz0, bz1, nz2, nz10, nz100, hp_gi, hp_si, ↓reduceIte, if_true, if_false, Bool.true_eq_false, Bool.false_eq_true, eq_self, reduceCtorEq, zo0, zp0_0, zp0_1, zp0_2, zp0_4, zp0_5, zp0_6, zp0_7, zp0_8, zp0_9, zp0_10, zo1, zp1_0, zp1_5, zp1_6, zp1_9, zo16, zp16_0, zp16_5, zp16_6, zp16_9, zo31, zp31_0, zp31_5, zp31_6, zp31_9, zo46, zp46_0, zp46_1, zp46_2, zo79, zp79_0, zo83, zp83_0, zp83_1, zp83_2, zo87, zp87_0, zp87_1, zo121, zp121_0, zp121_1, zp121_2, zp121_4, zp121_5, zp121_6, zp121_7, zp121_8, zp121_16, zp121_17, zp121_18, zp121_21, zp121_23, zp121_24, zp121_25, zp121_26, zp121_27, zp121_28, zp121_29, zp121_30, zp121_31, zp121_32, zp121_33, zp121_34, zp79_2, zx2, zx13, zx14, zx15, zx17, zx28, zx29, zx30, zx32, zx43, zx44, zx45, zx47, zx78, zx80, zx84, zx85, zx86, zx88, zx89, zx90, zx99, zx120, zx122, zx123, zx124, zx125, zx126, zx127, zx128, zx129, zx130, zx131, zx132, zx133, zx134, zx135, zx136, zx137, zx138, zx139, zx140, zx141, zx142, zx143, zx144, zx145, zg2, zg17, zg32, zgo3, zgo18, zgo33, zl47, zlo, zlp, zlx, zs90, zso, zsp, zsx, zt99, zto, ztp1, ztp2, ztgo, ztso, ztsp, ztsx, zc0, zi0, zc1, zi1, zc2, zi2, zc3, zi3, zc4, zi4, zc5, zi5, zin, zcl, nI_1, Bool.and_self, Bool.true_and, Bool.and_true, e7, zle, h3, h4, ix5, ex]
      · rw [show (gv (ej j) a == b) = false from beq_eq_false_iff_ne.mpr q, Bool.false_and]
        have hne : (nI (gv (ej j) a) = nI b) = False := zne q (by omega) (by omega)
        simp (disch := omega) only [fxX4_holds_b2, am_gd_t, am_lt_e, am_bd_s, bi_0, bi_bz, bz0, bz1, nz2, nz10, nz100, hp_gi, hp_si, ↓reduceIte, if_true, if_false, Bool.true_eq_false, Bool.false_eq_true, eq_self, reduceCtorEq, zo0, zp0_0, zp0_1, zp0_2, zp0_4, zp0_5, zp0_6, zp0_7, zp0_8, zp0_9, zp0_10, zo1, zp1_0, zp1_5, zp1_6, zp1_9, zo16, zp16_0, zp16_5, zp16_6, zp16_9, zo31, zp31_0, zp31_5, zp31_6, zp31_9, zo46, zp46_0, zp46_1, zp46_2, zo79, zp79_0, zo83, zp83_0, zp83_1, zp83_2, zo87, zp87_0, zp87_1, zo121, zp121_0, zp121_1, zp121_2, zp121_4, zp121_5, zp121_6, zp121_7, zp121_8, zp121_16, zp121_17, zp121_18, zp121_21, zp121_23, zp121_24, zp121_25, zp121_26, zp121_27, zp121_28, zp121_29, zp121_30, zp121_31, zp121_32, zp121_33, zp121_34, zp79_2, zx2, zx13, zx14, zx15, zx17, zx28, zx29, zx30, zx32, zx43, zx44, zx45, zx47, zx78, zx80, zx84, zx85, zx86, zx88, zx89, zx90, zx99, zx120, zx122, zx123, zx124, zx125, zx126, zx127, zx128, zx129, zx130, zx131, zx132, zx133, zx134, zx135, zx136, zx137, zx138, zx139, zx140, zx141, zx142, zx143, zx144, zx145, zg2, zg17, zg32, zgo3, zgo18, zgo33, zl47, zlo, zlp, zlx, zs90, zso, zsp, zsx, zt99, zto, ztp1, ztp2, ztgo, ztso, ztsp, ztsx, zc0, zi0, zc1, zi1, zc2, zi2, zc3, zi3, zc4, zi4, zc5, zi5, zin, zcl, nI_1, Bool.and_self, Bool.true_and, Bool.and_true, e7, zle, h3, h4, ix5, ex, hne]
        rfl
  have := L w 0 am_F (by omega) (by unfold am_F; omega)
  simp only [fxX4_holds, am_gd_t, am_lt_e, am_bd_s, bi_0, bi_bz, bz0, bz1, nz2, nz10, nz100, hp_gi, hp_si]
  exact this
theorem TG_up {r : Nat → Int32} {c : Nat → Nat → Nat} {v : Nat → Nat} (hv : ∀ l, v l < 5) {l : Nat} (hl : l < 5) (h : TG r (fun a b => c a b + if a < l ∧ v a = b then 1 else 0)) : TG (up1 r (5 * l + v l) (r (5 * l + v l) + 1)) (fun a b => c a b + if a < l + 1 ∧ v a = b then 1 else 0) := by
  intro a ha b hb
  have h1 := hv l
  by_cases e : a = l ∧ b = v l
  · obtain ⟨rfl, rfl⟩ := e
    rw [up1_eq, h a ha (v a) hb, nI_1]
    dsimp only
    congr 1
    rw [if_neg (by omega), if_pos ⟨by omega, rfl⟩]
  · rw [up1_ne (by omega), h a ha b hb]
    dsimp only
    congr 2
    by_cases q : a < l ∧ v a = b
    · rw [if_pos q, if_pos ⟨by omega, q.2⟩]
    · rw [if_neg q]
      by_cases q2 : a = l
      · subst q2
        rw [if_neg (fun x => e ⟨rfl, x.2.symm⟩)]
      · rw [if_neg (fun x => q ⟨by omega, x.2⟩)]
theorem tally_in {lp j : Nat} {c : Nat → Nat → Nat} (hj : j < 120) (k31 : Option Nat → Option Nat → Int32 → am_H → Option (Unit × am_H)) : ∀ k l fuel (M : Mem), l + k = 5 → k < fuel → (∀ j, j < 120 → ∀ l, l < 5 → M 88 (5 * j + l) = nI (rgt j l)) → TG (M 89) (fun a b => c a b + if a < l ∧ gv (ej j) a = b then 1 else 0) → ∃ M', fxX4_tally_b58 k31 fuel (some 87) (some 1) (nI j) (nI l) (hp lp M) = k31 (some 87) (some 1) (nI (j + 1)) (hp lp M') ∧ TG (M' 89) (fun a b => c a b + if gv (ej j) a = b then 1 else 0) ∧ ∀ z, z ≠ 89 → M' z = M z := by
  intro k
  induction k with
  | zero =>
    intro l fuel M hl hf hX hT
    obtain ⟨fuel, rfl⟩ : ∃ f, fuel = f + 1 := ⟨fuel - 1, by omega⟩
    obtain rfl : l = 5 := by omega
    refine ⟨M, ?_, fun a ha b hb => ?_, fun _ _ => rfl⟩
    · simp only [fxX4_tally_b58, fxX4_tally_b92, n5', am_gd_t, am_lt_e, am_bd_s, bi_0, bi_bz, bz0, bz1, nz2, nz10, nz100, hp_gi, hp_si, ↓reduceIte, if_true, if_false, Bool.true_eq_false, Bool.false_eq_true, eq_self, reduceCtorEq, nI_1]
    · rw [hT a ha b hb]
      dsimp only
      congr 2
      by_cases q : gv (ej j) a = b
      · rw [if_pos ⟨ha, q⟩, if_pos q]
      · rw [if_neg (fun x => q x.2), if_neg q]
  | succ k ih =>
    intro l fuel M hl hf hX hT
    obtain ⟨fuel, rfl⟩ : ∃ f, fuel = f + 1 := ⟨fuel - 1, by omega⟩
    have ex := hX j hj l (by omega)
    rw [← ej_gv j hj l (by omega)] at ex
    have hlt := gv_lt (ej j) l
    generalize hM1 : am_up M 89 (5 * l + gv (ej j) l) (M 89 (5 * l + gv (ej j) l) + 1) = M1
    have r1 : ∀ z, z ≠ 89 → M1 z = M z := fun z hz => by rw [← hM1, am_up_ne hz]
    obtain ⟨M', q1, q2, q3⟩ := ih (l + 1) fuel M1 (by omega) (by omega) (by rw [r1 88 (by decide)]; exact hX) (by rw [← hM1, up_row]; exact TG_up (gv_lt (ej j)) (by omega) hT)
    refine ⟨M', ?_, q2, fun z hz => by rw [q3 z hz, r1 z hz]⟩
    simp (disch := omega) only [fxX4_tally_b58, n5, am_gd_t, am_lt_e, am_bd_s, bi_0, bi_bz, bz0, bz1, nz2, nz10, nz100, hp_gi, hp_si, ↓reduceIte, if_true, if_false, Bool.true_eq_false, Bool.false_eq_true, eq_self, reduceCtorEq, zo0, zp0_0, zp0_1, zp0_2, zp0_4, zp0_5, zp0_6, zp0_7, zp0_8, zp0_9, zp0_10, zo1, zp1_0, zp1_5, zp1_6, zp1_9, zo16, zp16_0, zp16_5, zp16_6, zp16_9, zo31, zp31_0, zp31_5, zp31_6, zp31_9, zo46, zp46_0, zp46_1, zp46_2, zo79, zp79_0, zo83, zp83_0, zp83_1, zp83_2, zo87, zp87_0, zp87_1, zo121, zp121_0, zp121_1, zp121_2, zp121_4, zp121_5, zp121_6, zp121_7, zp121_8, zp121_16, zp121_17, zp121_18, zp121_21, zp121_23, zp121_24, zp121_25, zp121_26, zp121_27, zp121_28, zp121_29, zp121_30, zp121_31, zp121_32, zp121_33, zp121_34, zp79_2, zx2, zx13, zx14, zx15, zx17, zx28, zx29, zx30, zx32, zx43, zx44, zx45, zx47, zx78, zx80, zx84, zx85, zx86, zx88, zx89, zx90, zx99, zx120, zx122, zx123, zx124, zx125, zx126, zx127, zx128, zx129, zx130, zx131, zx132, zx133, zx134, zx135, zx136, zx137, zx138, zx139, zx140, zx141, zx142, zx143, zx144, zx145, zg2, zg17, zg32, zgo3, zgo18, zgo33, zl47, zlo, zlp, zlx, zs90, zso, zsp, zsx, zt99, zto, ztp1, ztp2, ztgo, ztso, ztsp, ztsx, zc0, zi0, zc1, zi1, zc2, zi2, zc3, zi3, zc4, zi4, zc5, zi5, zin, zcl, nI_1, Bool.and_self, Bool.true_and, Bool.and_true, ix5, ex, hM1]
    exact q1
theorem q_tally {lp w : Nat} {M : Mem} {g : Nat → Int32} (hw : w ≤ 10) (e7 : M 1 7 = nI w) (hX : ∀ j, j < 120 → ∀ l, l < 5 → M 88 (5 * j + l) = nI (rgt j l)) (hW : ∀ i, i < w → ∃ a b, a ≤ 4 ∧ b ≤ 4 ∧ M 13 i = nI a ∧ M 14 i = nI b ∧ g (6 + i) = nI (10 * a + b)) : ∃ M', fxX4_tally (some 87) (some 1) (hp lp M) = some ((), hp lp M') ∧ M' 87 2 = nI (cH (fun j => hR g w 0 (ej j)) 120) ∧ TG (M' 89) (fun a b => cH (fun j => hR g w 0 (ej j) && (gv (ej j) a == b)) 120) ∧ ∀ z, z ≠ 87 → z ≠ 89 → M' z = M z := by
  have L2 : ∀ k j fuel (M1 : Mem), j + k = 120 → k < fuel → (∀ z, z ≠ 87 → z ≠ 89 → M1 z = M z) → M1 87 2 = nI (cH (fun j => hR g w 0 (ej j)) j) → TG (M1 89) (fun a b => cH (fun j => hR g w 0 (ej j) && (gv (ej j) a == b)) j) → ∃ M', fxX4_tally_b31 fuel (some 87) (some 1) (nI j) (hp lp M1) = some ((), hp lp M') ∧ M' 87 2 = nI (cH (fun j => hR g w 0 (ej j)) 120) ∧ TG (M' 89) (fun a b => cH (fun j => hR g w 0 (ej j) && (gv (ej j) a == b)) 120) ∧ ∀ z, z ≠ 87 → z ≠ 89 → M' z = M z := by
    intro k
    induction k with
    | zero =>
      intro j fuel M1 hj hf hr h2 hT
      obtain ⟨fuel, rfl⟩ : ∃ f, fuel = f + 1 := ⟨fuel - 1, by omega⟩
      obtain rfl : j = 120 := by omega
      refine ⟨M1, ?_, h2, hT, hr⟩
      simp only [fxX4_tally_b31, show ((120 : Int32) ≤ nI 120) = True from by decide, ↓reduceIte, if_true, if_false, Bool.true_eq_false, Bool.false_eq_true, eq_self, reduceCtorEq]
    | succ k ih =>
      intro j fuel M1 hj hf hr h2 hT
      obtain ⟨fuel, rfl⟩ : ∃ f, fuel = f + 1 := ⟨fuel - 1, by omega⟩
      have h120 : ((120 : Int32) ≤ nI j) = False := zle (n := 120) (by omega) (by decide)
      have hX1 : ∀ j, j < 120 → ∀ l, l < 5 → M1 88 (5 * j + l) = nI (rgt j l) := by rw [hr 88 (by decide) (by decide)]; exact hX
      have hh := q_holds (lp := lp) (M := M1) (g := g) (show j < 120 by omega) hw (by rw [hr 1 (by decide) (by decide)]; exact e7) hX1 (by rw [hr 13 (by decide) (by decide), hr 14 (by decide) (by decide)]; exact hW)
      cases hb : hR g w 0 (ej j) with
      | false =>
        rw [hb] at hh
        obtain ⟨M', q⟩ := ih (j + 1) fuel M1 (by omega) (by omega) hr (by rw [cH_s, hb, if_neg (by decide)]; exact h2) (fun a ha b hb' => by rw [hT a ha b hb']; dsimp only; rw [cH_s, hb]; rfl)
        refine ⟨M', ?_, q.2⟩
        simp only [fxX4_tally_b31, fxX4_tally_b92, h120, am_gd_t, am_lt_e, am_bd_s, bi_0, bi_bz, bz0, bz1, nz2, nz10, nz100, hp_gi, hp_si, ↓reduceIte, if_true, if_false, Bool.true_eq_false, Bool.false_eq_true, eq_self, reduceCtorEq, zo0, zp0_0, zp0_1, zp0_2, zp0_4, zp0_5, zp0_6, zp0_7, zp0_8, zp0_9, zp0_10, zo1, zp1_0, zp1_5, zp1_6, zp1_9, zo16, zp16_0, zp16_5, zp16_6, zp16_9, zo31, zp31_0, zp31_5, zp31_6, zp31_9, zo46, zp46_0, zp46_1, zp46_2, zo79, zp79_0, zo83, zp83_0, zp83_1, zp83_2, zo87, zp87_0, zp87_1, zo121, zp121_0, zp121_1, zp121_2, zp121_4, zp121_5, zp121_6, zp121_7, zp121_8, zp121_16, zp121_17, zp121_18, zp121_21, zp121_23, zp121_24, zp121_25, zp121_26, zp121_27, zp121_28, zp121_29, zp121_30, zp121_31, zp121_32, zp121_33, zp121_34, zp79_2, zx2, zx13, zx14, zx15, zx17, zx28, zx29, zx30, zx32, zx43, zx44, zx45, zx47, zx78, zx80, zx84, zx85, zx86, zx88, zx89, zx90, zx99, zx120, zx122, zx123, zx124, zx125, zx126, zx127, zx128, zx129, zx130, zx131, zx132, zx133, zx134, zx135, zx136, zx137, zx138, zx139, zx140, zx141, zx142, zx143, zx144, zx145, zg2, zg17, zg32, zgo3, zgo18, zgo33, zl47, zlo, zlp, zlx, zs90, zso, zsp, zsx, zt99, zto, ztp1, ztp2, ztgo, ztso, ztsp, ztsx, zc0, zi0, zc1, zi1, zc2, zi2, zc3, zi3, zc4, zi4, zc5, zi5, hh, nI_1]
        exact q.1
      | true =>
        rw [hb] at hh
        generalize hM2 : am_up M1 87 2 (nI (cH (fun j => hR g w 0 (ej j)) j) + 1) = M2
        have r2 : ∀ z, z ≠ 87 → M2 z = M1 z := fun z hz => by rw [← hM2, am_up_ne hz]
        obtain ⟨M3, p1, p2, p3⟩ := tally_in (lp := lp) (c := fun a b => cH (fun j => hR g w 0 (ej j) && (gv (ej j) a == b)) j) (show j < 120 by omega) (fxX4_tally_b31 fuel) 5 0 am_F M2 (by omega) (by unfold am_F; omega) (by rw [r2 88 (by decide)]; exact hX1) (fun a ha b hb' => by
          rw [r2 89 (by decide), hT a ha b hb']
          dsimp only
          rw [if_neg (by omega), Nat.add_zero])
        obtain ⟨M', q⟩ := ih (j + 1) fuel M3 (by omega) (by omega) (fun z z1 z2 => by rw [p3 z z2, r2 z z1, hr z z1 z2]) (by rw [p3 87 (by decide), ← hM2, up_eq, nI_1, cH_s, hb, if_pos rfl]) (fun a ha b hb' => by
          rw [p2 a ha b hb']
          dsimp only
          rw [cH_s, hb, Bool.true_and]
          congr 2
          by_cases q : gv (ej j) a = b
          · rw [if_pos q, if_pos (beq_iff_eq.mpr q)]
          · rw [if_neg q, if_neg (fun x => q (beq_iff_eq.mp x))])
        refine ⟨M', ?_, q.2⟩
        simp only [fxX4_tally_b31, h120, am_gd_t, am_lt_e, am_bd_s, bi_0, bi_bz, bz0, bz1, nz2, nz10, nz100, hp_gi, hp_si, ↓reduceIte, if_true, if_false, Bool.true_eq_false, Bool.false_eq_true, eq_self, reduceCtorEq, zo0, zp0_0, zp0_1, zp0_2, zp0_4, zp0_5, zp0_6, zp0_7, zp0_8, zp0_9, zp0_10, zo1, zp1_0, zp1_5, zp1_6, zp1_9, zo16, zp16_0, zp16_5, zp16_6, zp16_9, zo31, zp31_0, zp31_5, zp31_6, zp31_9, zo46, zp46_0, zp46_1, zp46_2, zo79, zp79_0, zo83, zp83_0, zp83_1, zp83_2, zo87, zp87_0, zp87_1, zo121, zp121_0, zp121_1, zp121_2, zp121_4, zp121_5, zp121_6, zp121_7, zp121_8, zp121_16, zp121_17, zp121_18, zp121_21, zp121_23, zp121_24, zp121_25, zp121_26, zp121_27, zp121_28, zp121_29, zp121_30, zp121_31, zp121_32, zp121_33, zp121_34, zp79_2, zx2, zx13, zx14, zx15, zx17, zx28, zx29, zx30, zx32, zx43, zx44, zx45, zx47, zx78, zx80, zx84, zx85, zx86, zx88, zx89, zx90, zx99, zx120, zx122, zx123, zx124, zx125, zx126, zx127, zx128, zx129, zx130, zx131, zx132, zx133, zx134, zx135, zx136, zx137, zx138, zx139, zx140, zx141, zx142, zx143, zx144, zx145, zg2, zg17, zg32, zgo3, zgo18, zgo33, zl47, zlo, zlp, zlx, zs90, zso, zsp, zsx, zt99, zto, ztp1, ztp2, ztgo, ztso, ztsp, ztsx, zc0, zi0, zc1, zi1, zc2, zi2, zc3, zi3, zc4, zi4, zc5, zi5, hh, h2, hM2]
        rw [show (0 : Int32) = nI 0 from rfl, p1]
        exact q.1
  have L1 : ∀ k i fuel (M1 : Mem), i + k = 25 → k < fuel → (∀ z, z ≠ 87 → z ≠ 89 → M1 z = M z) → M1 87 2 = 0 → (∀ x, x < i → M1 89 x = 0) → ∃ M', fxX4_tally_b7 fuel (some 87) (some 1) (nI i) (hp lp M1) = some ((), hp lp M') ∧ M' 87 2 = nI (cH (fun j => hR g w 0 (ej j)) 120) ∧ TG (M' 89) (fun a b => cH (fun j => hR g w 0 (ej j) && (gv (ej j) a == b)) 120) ∧ ∀ z, z ≠ 87 → z ≠ 89 → M' z = M z := by
    intro k
    induction k with
    | zero =>
      intro i fuel M1 hi hf hr h2 h0
      obtain ⟨fuel, rfl⟩ : ∃ f, fuel = f + 1 := ⟨fuel - 1, by omega⟩
      obtain rfl : i = 25 := by omega
      obtain ⟨M', q⟩ := L2 120 0 am_F M1 (by omega) (by unfold am_F; omega) hr h2 (fun a ha b hb => h0 _ (by omega))
      refine ⟨M', ?_, q.2⟩
      simp only [fxX4_tally_b7, am_gd_t, am_lt_e, am_bd_s, bi_0, bi_bz, bz0, bz1, nz2, nz10, nz100, hp_gi, hp_si, ↓reduceIte, if_true, if_false, Bool.true_eq_false, Bool.false_eq_true, eq_self, reduceCtorEq, zo0, zp0_0, zp0_1, zp0_2, zp0_4, zp0_5, zp0_6, zp0_7, zp0_8, zp0_9, zp0_10, zo1, zp1_0, zp1_5, zp1_6, zp1_9, zo16, zp16_0, zp16_5, zp16_6, zp16_9, zo31, zp31_0, zp31_5, zp31_6, zp31_9, zo46, zp46_0, zp46_1, zp46_2, zo79, zp79_0, zo83, zp83_0, zp83_1, zp83_2, zo87, zp87_0, zp87_1, zo121, zp121_0, zp121_1, zp121_2, zp121_4, zp121_5, zp121_6, zp121_7, zp121_8, zp121_16, zp121_17, zp121_18, zp121_21, zp121_23, zp121_24, zp121_25, zp121_26, zp121_27, zp121_28, zp121_29, zp121_30, zp121_31, zp121_32, zp121_33, zp121_34, zp79_2, zx2, zx13, zx14, zx15, zx17, zx28, zx29, zx30, zx32, zx43, zx44, zx45, zx47, zx78, zx80, zx84, zx85, zx86, zx88, zx89, zx90, zx99, zx120, zx122, zx123, zx124, zx125, zx126, zx127, zx128, zx129, zx130, zx131, zx132, zx133, zx134, zx135, zx136, zx137, zx138, zx139, zx140, zx141, zx142, zx143, zx144, zx145, zg2, zg17, zg32, zgo3, zgo18, zgo33, zl47, zlo, zlp, zlx, zs90, zso, zsp, zsx, zt99, zto, ztp1, ztp2, ztgo, ztso, ztsp, ztsx, zc0, zi0, zc1, zi1, zc2, zi2, zc3, zi3, zc4, zi4, zc5, zi5, show am_ar (hp lp M1) (some 89) 0 = true from rfl, show am_ln (hp lp M1) (some 89) = 25 from rfl, show (Int32.ofNat 25 ≤ nI 25) = True from by decide]
      exact q.1
    | succ k ih =>
      intro i fuel M1 hi hf hr h2 h0
      obtain ⟨fuel, rfl⟩ : ∃ f, fuel = f + 1 := ⟨fuel - 1, by omega⟩
      have h25 : (Int32.ofNat 25 ≤ nI i) = False := zle (n := 25) (by omega) (by decide)
      obtain ⟨M', q⟩ := ih (i + 1) fuel (am_up M1 89 i 0) (by omega) (by omega) (fun z z1 z2 => by rw [am_up_ne z2, hr z z1 z2]) (by rw [am_up_ne (by decide)]; exact h2) (fun x hx => by
        rw [up_row]
        by_cases q : x = i
        · subst q; rw [up1_eq]
        · rw [up1_ne q]; exact h0 x (by omega))
      refine ⟨M', ?_, q.2⟩
      simp (disch := omega) only [fxX4_tally_b7, am_gd_t, am_lt_e, am_bd_s, bi_0, bi_bz, bz0, bz1, nz2, nz10, nz100, hp_gi, hp_si, ↓reduceIte, if_true, if_false, Bool.true_eq_false, Bool.false_eq_true, eq_self, reduceCtorEq, zo0, zp0_0, zp0_1, zp0_2, zp0_4, zp0_5, zp0_6, zp0_7, zp0_8, zp0_9, zp0_10, zo1, zp1_0, zp1_5, zp1_6, zp1_9, zo16, zp16_0, zp16_5, zp16_6, zp16_9, zo31, zp31_0, zp31_5, zp31_6, zp31_9, zo46, zp46_0, zp46_1, zp46_2, zo79, zp79_0, zo83, zp83_0, zp83_1, zp83_2, zo87, zp87_0, zp87_1, zo121, zp121_0, zp121_1, zp121_2, zp121_4, zp121_5, zp121_6, zp121_7, zp121_8, zp121_16, zp121_17, zp121_18, zp121_21, zp121_23, zp121_24, zp121_25, zp121_26, zp121_27, zp121_28, zp121_29, zp121_30, zp121_31, zp121_32, zp121_33, zp121_34, zp79_2, zx2, zx13, zx14, zx15, zx17, zx28, zx29, zx30, zx32, zx43, zx44, zx45, zx47, zx78, zx80, zx84, zx85, zx86, zx88, zx89, zx90, zx99, zx120, zx122, zx123, zx124, zx125, zx126, zx127, zx128, zx129, zx130, zx131, zx132, zx133, zx134, zx135, zx136, zx137, zx138, zx139, zx140, zx141, zx142, zx143, zx144, zx145, zg2, zg17, zg32, zgo3, zgo18, zgo33, zl47, zlo, zlp, zlx, zs90, zso, zsp, zsx, zt99, zto, ztp1, ztp2, ztgo, ztso, ztsp, ztsx, zc0, zi0, zc1, zi1, zc2, zi2, zc3, zi3, zc4, zi4, zc5, zi5, zin, zcl, nI_1, Bool.and_self, Bool.true_and, Bool.and_true, show am_ar (hp lp M1) (some 89) 0 = true from rfl, show am_ln (hp lp M1) (some 89) = 25 from rfl, h25]
      exact q.1
  obtain ⟨M', q⟩ := L1 25 0 am_F (am_up M 87 2 0) (by omega) (by unfold am_F; omega) (fun z z1 z2 => am_up_ne z1) (up_eq _ _ _ _) (fun x hx => by omega)
  refine ⟨M', ?_, q.2⟩
  simp only [fxX4_tally, am_gd_t, am_lt_e, am_bd_s, bi_0, bi_bz, bz0, bz1, nz2, nz10, nz100, hp_gi, hp_si, ↓reduceIte, if_true, if_false, Bool.true_eq_false, Bool.false_eq_true, eq_self, reduceCtorEq, zo0, zp0_0, zp0_1, zp0_2, zp0_4, zp0_5, zp0_6, zp0_7, zp0_8, zp0_9, zp0_10, zo1, zp1_0, zp1_5, zp1_6, zp1_9, zo16, zp16_0, zp16_5, zp16_6, zp16_9, zo31, zp31_0, zp31_5, zp31_6, zp31_9, zo46, zp46_0, zp46_1, zp46_2, zo79, zp79_0, zo83, zp83_0, zp83_1, zp83_2, zo87, zp87_0, zp87_1, zo121, zp121_0, zp121_1, zp121_2, zp121_4, zp121_5, zp121_6, zp121_7, zp121_8, zp121_16, zp121_17, zp121_18, zp121_21, zp121_23, zp121_24, zp121_25, zp121_26, zp121_27, zp121_28, zp121_29, zp121_30, zp121_31, zp121_32, zp121_33, zp121_34, zp79_2, zx2, zx13, zx14, zx15, zx17, zx28, zx29, zx30, zx32, zx43, zx44, zx45, zx47, zx78, zx80, zx84, zx85, zx86, zx88, zx89, zx90, zx99, zx120, zx122, zx123, zx124, zx125, zx126, zx127, zx128, zx129, zx130, zx131, zx132, zx133, zx134, zx135, zx136, zx137, zx138, zx139, zx140, zx141, zx142, zx143, zx144, zx145, zg2, zg17, zg32, zgo3, zgo18, zgo33, zl47, zlo, zlp, zlx, zs90, zso, zsp, zsx, zt99, zto, ztp1, ztp2, ztgo, ztso, ztsp, ztsx, zc0, zi0, zc1, zi1, zc2, zi2, zc3, zi3, zc4, zi4, zc5, zi5]
  exact q.1
