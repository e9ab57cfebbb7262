/-! ===== pour, copy ===== -/
theorem clamp_nI (x : Int32) (m : Nat) (hm : m ≤ 1000000) : ∃ v, v ≤ m ∧ clampS x 0 (nI m) = nI v := by
  unfold clampS
  by_cases h1 : 0 ≤ x
  · rw [if_pos h1]
    by_cases h2 : x ≤ nI m
    · rw [if_pos h2]
      obtain ⟨j, hj, rfl⟩ := nI_of (Int32.not_lt.mpr h1)
      exact ⟨j, (nI_leI hj (by omega)).mp h2, rfl⟩
    · rw [if_neg h2]
      exact ⟨m, Nat.le_refl _, rfl⟩
  · rw [if_neg h1]
    exact ⟨0, Nat.zero_le _, rfl⟩
def pourS (c : Nat → Int32) (n : Nat) : Nat → Nat → Int32 → (Nat → Int32) → Int32 × (Nat → Int32)
  | 0, _, acc, g => (acc, g)
  | k + 1, i, acc, g => if i < n ∧ c i ≠ -1000000005 then pourS c n k (i + 1) (if g (16 + 6 * i + 3) = clampS (c i) 0 99 then acc else acc + 1) (up1 g (16 + 6 * i + 3) (clampS (c i) 0 99)) else pourS c n k (i + 1) acc g
theorem pourS_stop (c : Nat → Int32) (n : Nat) : ∀ k i acc g, n ≤ i → pourS c n k i acc g = (acc, g) := by
  intro k
  induction k with
  | zero => intro i acc g h; rfl
  | succ k ih =>
    intro i acc g h
    unfold pourS
    rw [if_neg (by omega)]
    exact ih (i + 1) acc g (by omega)
theorem pourS_lo (c : Nat → Int32) (n : Nat) : ∀ k i acc g z, z < 16 → (pourS c n k i acc g).2 z = g z := by
  intro k
  induction k with
  | zero => intro i acc g z h; rfl
  | succ k ih =>
    intro i acc g z h
    unfold pourS
    split
    · rw [ih _ _ _ _ h, up1_ne (by omega)]
    · exact ih _ _ _ _ h
theorem pour_c {lp s n : Nat} {c : Nat → Int32} (hs : s < 4) (hn : n ≤ 24) : ∀ k i fuel acc (M : Mem) (g : Nat → Int32), RC M 1 g → i + k = cn (g 1) → k < fuel → M (91 + 2 * s) 1 = nI n → (∀ k, k < 24 → M (92 + 2 * s) k = c k) → ∃ M', fxX9_pour_b34 fuel (some 0) (some (91 + 2 * s)) acc (nI i) (hp lp M) = some ((pourS c n k i acc g).1, hp lp M') ∧ RC M' 1 (pourS c n k i acc g).2 ∧ ∀ z, ¬ (1 ≤ z ∧ z ≤ 15) → M' z = M z := by
  intro k
  induction k with
  | zero =>
    intro i fuel acc M g hR hi hf h2 h6
    obtain ⟨fuel, rfl⟩ : ∃ f, fuel = f + 1 := ⟨fuel - 1, by omega⟩
    obtain ⟨hn', en⟩ := hR.2.2.2.2.1.n
    have e1 : M 1 1 = nI i := by rw [hR.1.2.1, en]; congr 1; omega
    refine ⟨M, ?_, hR, fun _ _ => rfl⟩
    simp (disch := omega) only [fxX9_pour_b34, am_gd_t, am_lt_e, am_bd_s, bi_0, bi_bz, bz0, bz1, nz2, nz10, nz100, hp_gi, hp_si, ↓reduceIte, if_true, if_false, Bool.true_eq_false, Bool.false_eq_true, eq_self, reduceCtorEq, zo0, zp0_0, zp0_1, zp0_2, zp0_4, zp0_5, zp0_6, zp0_7, zp0_8, zp0_9, zp0_10, zo1, zp1_0, zp1_5, zp1_6, zp1_9, zo16, zp16_0, zp16_5, zp16_6, zp16_9, zo31, zp31_0, zp31_5, zp31_6, zp31_9, zo46, zp46_0, zp46_1, zp46_2, zo79, zp79_0, zo83, zp83_0, zp83_1, zp83_2, zo87, zp87_0, zp87_1, zo121, zp121_0, zp121_1, zp121_2, zp121_4, zp121_5, zp121_6, zp121_7, zp121_8, zp121_16, zp121_17, zp121_18, zp121_21, zp121_23, zp121_24, zp121_25, zp121_26, zp121_27, zp121_28, zp121_29, zp121_30, zp121_31, zp121_32, zp121_33, zp121_34, zp79_2, zx2, zx13, zx14, zx15, zx17, zx28, zx29, zx30, zx32, zx43, zx44, zx45, zx47, zx78, zx80, zx84, zx85, zx86, zx88, zx89, zx90, zx99, zx120, zx122, zx123, zx124, zx125, zx126, zx127, zx128, zx129, zx130, zx131, zx132, zx133, zx134, zx135, zx136, zx137, zx138, zx139, zx140, zx141, zx142, zx143, zx144, zx145, zg2, zg17, zg32, zgo3, zgo18, zgo33, zl47, zlo, zlp, zlx, zs90, zso, zsp, zsx, zt99, zto, ztp1, ztp2, ztgo, ztso, ztsp, ztsx, zc0, zi0, zc1, zi1, zc2, zi2, zc3, zi3, zc4, zi4, zc5, zi5, zin, zcl, nI_1, Bool.and_self, Bool.true_and, Bool.and_true, e1, zle', pourS]
  | succ k ih =>
    intro i fuel acc M g hR hi hf h2 h6
    obtain ⟨fuel, rfl⟩ : ∃ f, fuel = f + 1 := ⟨fuel - 1, by omega⟩
    obtain ⟨hn', en⟩ := hR.2.2.2.2.1.n
    have e1 : M 1 1 = nI (cn (g 1)) := by rw [hR.1.2.1, en, cn_nI (by omega)]
    have ho := zso (lp := lp) (M := M) hs
    have hhn := q_hasNumber (lp := lp) (M := M) ho (zsp hs) (fun i => zsx hs) hn h2
    have hgt : (nI (cn (g 1)) ≤ nI i) = False := zle (by omega) (by omega)
    unfold pourS
    by_cases hin : i < n
    · have hiw : iw (nI i) 0 (nI n - 1) = true := iw_nI' (by omega) hin
      have hc := h6 i (by omega)
      by_cases q : c i = -1000000005
      · rw [if_neg (by simp [q])]
        obtain ⟨M', q1, q2, q3⟩ := ih (i + 1) fuel acc M g hR (by omega) (by omega) h2 h6
        refine ⟨M', ?_, q2, q3⟩
        simp (disch := omega) only [fxX9_pour_b34, fxX9_pour_b105, am_gd_t, am_lt_e, am_bd_s, bi_0, bi_bz, bz0, bz1, nz2, nz10, nz100, hp_gi, hp_si, ↓reduceIte, if_true, if_false, Bool.true_eq_false, Bool.false_eq_true, eq_self, reduceCtorEq, zo0, zp0_0, zp0_1, zp0_2, zp0_4, zp0_5, zp0_6, zp0_7, zp0_8, zp0_9, zp0_10, zo1, zp1_0, zp1_5, zp1_6, zp1_9, zo16, zp16_0, zp16_5, zp16_6, zp16_9, zo31, zp31_0, zp31_5, zp31_6, zp31_9, zo46, zp46_0, zp46_1, zp46_2, zo79, zp79_0, zo83, zp83_0, zp83_1, zp83_2, zo87, zp87_0, zp87_1, zo121, zp121_0, zp121_1, zp121_2, zp121_4, zp121_5, zp121_6, zp121_7, zp121_8, zp121_16, zp121_17, zp121_18, zp121_21, zp121_23, zp121_24, zp121_25, zp121_26, zp121_27, zp121_28, zp121_29, zp121_30, zp121_31, zp121_32, zp121_33, zp121_34, zp79_2, zx2, zx13, zx14, zx15, zx17, zx28, zx29, zx30, zx32, zx43, zx44, zx45, zx47, zx78, zx80, zx84, zx85, zx86, zx88, zx89, zx90, zx99, zx120, zx122, zx123, zx124, zx125, zx126, zx127, zx128, zx129, zx130, zx131, zx132, zx133, zx134, zx135, zx136, zx137, zx138, zx139, zx140, zx141, zx142, zx143, zx144, zx145, zg2, zg17, zg32, zgo3, zgo18, zgo33, zl47, zlo, zlp, zlx, zs90, zso, zsp, zsx, zt99, zto, ztp1, ztp2, ztgo, ztso, ztsp, ztsx, zc0, zi0, zc1, zi1, zc2, zi2, zc3, zi3, zc4, zi4, zc5, zi5, zin, zcl, nI_1, Bool.and_self, Bool.true_and, Bool.and_true, e1, hgt, hhn, hiw, hc, q, decide_true, Bool.not_true]
        exact q1
      · rw [if_pos ⟨hin, q⟩]
        obtain ⟨v, hv, ev⟩ := clamp_nI (c i) 99 (by decide)
        have ev : clampS (c i) 0 99 = nI v := ev
        rw [ev]
        obtain ⟨v1, w1⟩ := hR.gv (show i < cn (g 1) by omega)
        have w3 : M (3 + i) 3 = g (16 + 6 * i + 3) := w1 3 (by decide)
        have hR' := RC_field gu1 hR (show i < cn (g 1) by omega) (show 3 < 6 by decide) (show v ≤ gmx 3 from hv) (am_up M (3 + i) 3 (nI v)) (show am_up M (3 + i) 3 (nI v) (3 + i) = _ from up_row _ _ _ _) (fun k h _ => am_up_ne (show k ≠ 3 + i by omega))
        obtain ⟨M', q1, q2, q3⟩ := ih (i + 1) fuel (if g (16 + 6 * i + 3) = nI v then acc else acc + 1) (am_up M (3 + i) 3 (nI v)) _ hR' (by rw [up1_ne (by omega)]; omega) (by omega) (by rw [am_up_ne (by omega)]; exact h2) (fun k hk => by rw [am_up_ne (by omega)]; exact h6 k hk)
        refine ⟨M', ?_, q2, fun z hz => by rw [q3 z hz, am_up_ne (by omega)]⟩
        simp (disch := omega) only [fxX9_pour_b34, fxX9_pour_b105, fxX9_pour_b90, am_gd_t, am_lt_e, am_bd_s, bi_0, bi_bz, bz0, bz1, nz2, nz10, nz100, hp_gi, hp_si, ↓reduceIte, if_true, if_false, Bool.true_eq_false, Bool.false_eq_true, eq_self, reduceCtorEq, zo0, zp0_0, zp0_1, zp0_2, zp0_4, zp0_5, zp0_6, zp0_7, zp0_8, zp0_9, zp0_10, zo1, zp1_0, zp1_5, zp1_6, zp1_9, zo16, zp16_0, zp16_5, zp16_6, zp16_9, zo31, zp31_0, zp31_5, zp31_6, zp31_9, zo46, zp46_0, zp46_1, zp46_2, zo79, zp79_0, zo83, zp83_0, zp83_1, zp83_2, zo87, zp87_0, zp87_1, zo121, zp121_0, zp121_1, zp121_2, zp121_4, zp121_5, zp121_6, zp121_7, zp121_8, zp121_16, zp121_17, zp121_18, zp121_21, zp121_23, zp121_24, zp121_25, zp121_26, zp121_27, zp121_28, zp121_29, zp121_30, zp121_31, zp121_32, zp121_33, zp121_34, zp79_2, zx2, zx13, zx14, zx15, zx17, zx28, zx29, zx30, zx32, zx43, zx44, zx45, zx47, zx78, zx80, zx84, zx85, zx86, zx88, zx89, zx90, zx99, zx120, zx122, zx123, zx124, zx125, zx126, zx127, zx128, zx129, zx130, zx131, zx132, zx133, zx134, zx135, zx136, zx137, zx138, zx139, zx140, zx141, zx142, zx143, zx144, zx145, zg2, zg17, zg32, zgo3, zgo18, zgo33, zl47, zlo, zlp, zlx, zs90, zso, zsp, zsx, zt99, zto, ztp1, ztp2, ztgo, ztso, ztsp, ztsx, zc0, zi0, zc1, zi1, zc2, zi2, zc3, zi3, zc4, zi4, zc5, zi5, zin, zcl, nI_1, Bool.and_self, Bool.true_and, Bool.and_true, e1, hgt, hhn, hiw, hc, q, decide_false, Bool.not_false, q_held (c i) 99 (by decide), ev, w3]
        split
        · next h => rw [if_pos h] at q1; exact q1
        · next h => rw [if_neg h] at q1; exact q1
    · have hiw : iw (nI i) 0 (nI n - 1) = false := by
        cases hh : iw (nI i) 0 (nI n - 1) with
        | false => rfl
        | true =>
          obtain ⟨j, hj, ej⟩ := iw_nI (by omega) hh
          have := (nI_eq (by omega) (by omega)).mp ej
          omega
      rw [if_neg (by omega)]
      obtain ⟨M', q1, q2, q3⟩ := ih (i + 1) fuel acc M g hR (by omega) (by omega) h2 h6
      refine ⟨M', ?_, q2, q3⟩
      simp (disch := omega) only [fxX9_pour_b34, fxX9_pour_b105, am_gd_t, am_lt_e, am_bd_s, bi_0, bi_bz, bz0, bz1, nz2, nz10, nz100, hp_gi, hp_si, ↓reduceIte, if_true, if_false, Bool.true_eq_false, Bool.false_eq_true, eq_self, reduceCtorEq, zo0, zp0_0, zp0_1, zp0_2, zp0_4, zp0_5, zp0_6, zp0_7, zp0_8, zp0_9, zp0_10, zo1, zp1_0, zp1_5, zp1_6, zp1_9, zo16, zp16_0, zp16_5, zp16_6, zp16_9, zo31, zp31_0, zp31_5, zp31_6, zp31_9, zo46, zp46_0, zp46_1, zp46_2, zo79, zp79_0, zo83, zp83_0, zp83_1, zp83_2, zo87, zp87_0, zp87_1, zo121, zp121_0, zp121_1, zp121_2, zp121_4, zp121_5, zp121_6, zp121_7, zp121_8, zp121_16, zp121_17, zp121_18, zp121_21, zp121_23, zp121_24, zp121_25, zp121_26, zp121_27, zp121_28, zp121_29, zp121_30, zp121_31, zp121_32, zp121_33, zp121_34, zp79_2, zx2, zx13, zx14, zx15, zx17, zx28, zx29, zx30, zx32, zx43, zx44, zx45, zx47, zx78, zx80, zx84, zx85, zx86, zx88, zx89, zx90, zx99, zx120, zx122, zx123, zx124, zx125, zx126, zx127, zx128, zx129, zx130, zx131, zx132, zx133, zx134, zx135, zx136, zx137, zx138, zx139, zx140, zx141, zx142, zx143, zx144, zx145, zg2, zg17, zg32, zgo3, zgo18, zgo33, zl47, zlo, zlp, zlx, zs90, zso, zsp, zsx, zt99, zto, ztp1, ztp2, ztgo, ztso, ztsp, ztsx, zc0, zi0, zc1, zi1, zc2, zi2, zc3, zi3, zc4, zi4, zc5, zi5, zin, zcl, nI_1, Bool.and_self, Bool.true_and, Bool.and_true, e1, hgt, hhn, hiw, Bool.false_and]
      exact q1
theorem up_self (M : Mem) (k j : Nat) : am_up M k j (M k j) = M := by
  funext a c
  unfold am_up
  by_cases h1 : a = k
  · by_cases h2 : c = j
    · simp [h1, h2]
    · simp [h1, h2]
  · simp [h1]
theorem pour_m {lp s n m : Nat} {c : Nat → Int32} (hs : s < 4) (hn : n ≤ 24) (hm : m ≤ 10) : ∀ k i fuel acc (M : Mem), M 122 1 = nI m → i + k = m → k < fuel → M 138 s = nI n → (∀ k, k < 24 → M 139 (24 * s + k) = c k) → ∃ M', fxX10_pour_b26 fuel (some 121) (nI s) acc (nI i) (hp lp M) = some ((pourS c n k i acc (M 122)).1, hp lp M') ∧ M' 122 = (pourS c n k i acc (M 122)).2 ∧ ∀ z, z ≠ 122 → M' z = M z := by
  intro k
  induction k with
  | zero =>
    intro i fuel acc M em hi hf h3 h6
    obtain ⟨fuel, rfl⟩ : ∃ f, fuel = f + 1 := ⟨fuel - 1, by omega⟩
    obtain rfl : i = m := by omega
    refine ⟨M, ?_, rfl, fun _ _ => rfl⟩
    simp (disch := omega) only [fxX10_pour_b26, am_gd_t, am_lt_e, am_bd_s, bi_0, bi_bz, bz0, bz1, nz2, nz10, nz100, hp_gi, hp_si, ↓reduceIte, if_true, if_false, Bool.true_eq_false, Bool.false_eq_true, eq_self, reduceCtorEq, zo0, zp0_0, zp0_1, zp0_2, zp0_4, zp0_5, zp0_6, zp0_7, zp0_8, zp0_9, zp0_10, zo1, zp1_0, zp1_5, zp1_6, zp1_9, zo16, zp16_0, zp16_5, zp16_6, zp16_9, zo31, zp31_0, zp31_5, zp31_6, zp31_9, zo46, zp46_0, zp46_1, zp46_2, zo79, zp79_0, zo83, zp83_0, zp83_1, zp83_2, zo87, zp87_0, zp87_1, zo121, zp121_0, zp121_1, zp121_2, zp121_4, zp121_5, zp121_6, zp121_7, zp121_8, zp121_16, zp121_17, zp121_18, zp121_21, zp121_23, zp121_24, zp121_25, zp121_26, zp121_27, zp121_28, zp121_29, zp121_30, zp121_31, zp121_32, zp121_33, zp121_34, zp79_2, zx2, zx13, zx14, zx15, zx17, zx28, zx29, zx30, zx32, zx43, zx44, zx45, zx47, zx78, zx80, zx84, zx85, zx86, zx88, zx89, zx90, zx99, zx120, zx122, zx123, zx124, zx125, zx126, zx127, zx128, zx129, zx130, zx131, zx132, zx133, zx134, zx135, zx136, zx137, zx138, zx139, zx140, zx141, zx142, zx143, zx144, zx145, zg2, zg17, zg32, zgo3, zgo18, zgo33, zl47, zlo, zlp, zlx, zs90, zso, zsp, zsx, zt99, zto, ztp1, ztp2, ztgo, ztso, ztsp, ztsx, zc0, zi0, zc1, zi1, zc2, zi2, zc3, zi3, zc4, zi4, zc5, zi5, zin, zcl, nI_1, Bool.and_self, Bool.true_and, Bool.and_true, em, zle', h3, pourS, ite_self]
  | succ k ih =>
    intro i fuel acc M em hi hf h3 h6
    obtain ⟨fuel, rfl⟩ : ∃ f, fuel = f + 1 := ⟨fuel - 1, by omega⟩
    by_cases hin : i < n
    · have hc := h6 i (by omega)
      unfold pourS
      by_cases q : c i = -1000000005
      · rw [if_neg (by simp [q])]
        obtain ⟨M', q1, q2, q3⟩ := ih (i + 1) fuel acc M em (by omega) (by omega) h3 h6
        refine ⟨M', ?_, q2, q3⟩
        simp (disch := omega) only [fxX10_pour_b26, fxX10_pour_b83, fxX10_pour_b111, am_gd_t, am_lt_e, am_bd_s, bi_0, bi_bz, bz0, bz1, nz2, nz10, nz100, hp_gi, hp_si, ↓reduceIte, if_true, if_false, Bool.true_eq_false, Bool.false_eq_true, eq_self, reduceCtorEq, zo0, zp0_0, zp0_1, zp0_2, zp0_4, zp0_5, zp0_6, zp0_7, zp0_8, zp0_9, zp0_10, zo1, zp1_0, zp1_5, zp1_6, zp1_9, zo16, zp16_0, zp16_5, zp16_6, zp16_9, zo31, zp31_0, zp31_5, zp31_6, zp31_9, zo46, zp46_0, zp46_1, zp46_2, zo79, zp79_0, zo83, zp83_0, zp83_1, zp83_2, zo87, zp87_0, zp87_1, zo121, zp121_0, zp121_1, zp121_2, zp121_4, zp121_5, zp121_6, zp121_7, zp121_8, zp121_16, zp121_17, zp121_18, zp121_21, zp121_23, zp121_24, zp121_25, zp121_26, zp121_27, zp121_28, zp121_29, zp121_30, zp121_31, zp121_32, zp121_33, zp121_34, zp79_2, zx2, zx13, zx14, zx15, zx17, zx28, zx29, zx30, zx32, zx43, zx44, zx45, zx47, zx78, zx80, zx84, zx85, zx86, zx88, zx89, zx90, zx99, zx120, zx122, zx123, zx124, zx125, zx126, zx127, zx128, zx129, zx130, zx131, zx132, zx133, zx134, zx135, zx136, zx137, zx138, zx139, zx140, zx141, zx142, zx143, zx144, zx145, zg2, zg17, zg32, zgo3, zgo18, zgo33, zl47, zlo, zlp, zlx, zs90, zso, zsp, zsx, zt99, zto, ztp1, ztp2, ztgo, ztso, ztsp, ztsx, zc0, zi0, zc1, zi1, zc2, zi2, zc3, zi3, zc4, zi4, zc5, zi5, zin, zcl, nI_1, Bool.and_self, Bool.true_and, Bool.and_true, em, h3, zle, nI24, hc, q, q_of (show i < 10 by omega) (show 3 < 6 by decide) (3 : Int32) rfl, nI16', show nI (16 + 6 * i) + 3 = nI (16 + 6 * i + 3) from nI_add _ 3, q_becomes (show 16 + 6 * i + 3 < 1448 by omega) (nI (16 + 6 * i + 3)) _ rfl, up_self, Int32.add_zero]
        exact q1
      · rw [if_pos ⟨hin, q⟩]
        obtain ⟨M', q1, q2, q3⟩ := ih (i + 1) fuel (if M 122 (16 + 6 * i + 3) = clampS (c i) 0 99 then acc else acc + 1) (am_up M 122 (16 + 6 * i + 3) (clampS (c i) 0 99)) (by rw [up_nj (by omega)]; exact em) (by omega) (by omega) (by rw [am_up_ne (by omega)]; exact h3) (fun k hk => by rw [am_up_ne (by omega)]; exact h6 k hk)
        rw [up_row] at q1 q2
        refine ⟨M', ?_, q2, fun z hz => by rw [q3 z hz, am_up_ne hz]⟩
        simp (disch := omega) only [fxX10_pour_b26, fxX10_pour_b83, fxX10_pour_b111, am_gd_t, am_lt_e, am_bd_s, bi_0, bi_bz, bz0, bz1, nz2, nz10, nz100, hp_gi, hp_si, ↓reduceIte, if_true, if_false, Bool.true_eq_false, Bool.false_eq_true, eq_self, reduceCtorEq, zo0, zp0_0, zp0_1, zp0_2, zp0_4, zp0_5, zp0_6, zp0_7, zp0_8, zp0_9, zp0_10, zo1, zp1_0, zp1_5, zp1_6, zp1_9, zo16, zp16_0, zp16_5, zp16_6, zp16_9, zo31, zp31_0, zp31_5, zp31_6, zp31_9, zo46, zp46_0, zp46_1, zp46_2, zo79, zp79_0, zo83, zp83_0, zp83_1, zp83_2, zo87, zp87_0, zp87_1, zo121, zp121_0, zp121_1, zp121_2, zp121_4, zp121_5, zp121_6, zp121_7, zp121_8, zp121_16, zp121_17, zp121_18, zp121_21, zp121_23, zp121_24, zp121_25, zp121_26, zp121_27, zp121_28, zp121_29, zp121_30, zp121_31, zp121_32, zp121_33, zp121_34, zp79_2, zx2, zx13, zx14, zx15, zx17, zx28, zx29, zx30, zx32, zx43, zx44, zx45, zx47, zx78, zx80, zx84, zx85, zx86, zx88, zx89, zx90, zx99, zx120, zx122, zx123, zx124, zx125, zx126, zx127, zx128, zx129, zx130, zx131, zx132, zx133, zx134, zx135, zx136, zx137, zx138, zx139, zx140, zx141, zx142, zx143, zx144, zx145, zg2, zg17, zg32, zgo3, zgo18, zgo33, zl47, zlo, zlp, zlx, zs90, zso, zsp, zsx, zt99, zto, ztp1, ztp2, ztgo, ztso, ztsp, ztsx, zc0, zi0, zc1, zi1, zc2, zi2, zc3, zi3, zc4, zi4, zc5, zi5, zin, zcl, nI_1, Bool.and_self, Bool.true_and, Bool.and_true, em, h3, zle, nI24, hc, q, q_mwithin, nI16', show nI (16 + 6 * i) + 3 = nI (16 + 6 * i + 3) from nI_add _ 3, q_becomes (show 16 + 6 * i + 3 < 1448 by omega) (nI (16 + 6 * i + 3)) _ rfl, Int32.add_zero]
        split
        · next h => rw [if_pos h] at q1; exact q1
        · next h => rw [if_neg h] at q1; exact q1
    · rw [pourS_stop c n (k + 1) i acc _ (by omega)]
      refine ⟨M, ?_, rfl, fun _ _ => rfl⟩
      simp (disch := omega) only [fxX10_pour_b26, am_gd_t, am_lt_e, am_bd_s, bi_0, bi_bz, bz0, bz1, nz2, nz10, nz100, hp_gi, hp_si, ↓reduceIte, if_true, if_false, Bool.true_eq_false, Bool.false_eq_true, eq_self, reduceCtorEq, zo0, zp0_0, zp0_1, zp0_2, zp0_4, zp0_5, zp0_6, zp0_7, zp0_8, zp0_9, zp0_10, zo1, zp1_0, zp1_5, zp1_6, zp1_9, zo16, zp16_0, zp16_5, zp16_6, zp16_9, zo31, zp31_0, zp31_5, zp31_6, zp31_9, zo46, zp46_0, zp46_1, zp46_2, zo79, zp79_0, zo83, zp83_0, zp83_1, zp83_2, zo87, zp87_0, zp87_1, zo121, zp121_0, zp121_1, zp121_2, zp121_4, zp121_5, zp121_6, zp121_7, zp121_8, zp121_16, zp121_17, zp121_18, zp121_21, zp121_23, zp121_24, zp121_25, zp121_26, zp121_27, zp121_28, zp121_29, zp121_30, zp121_31, zp121_32, zp121_33, zp121_34, zp79_2, zx2, zx13, zx14, zx15, zx17, zx28, zx29, zx30, zx32, zx43, zx44, zx45, zx47, zx78, zx80, zx84, zx85, zx86, zx88, zx89, zx90, zx99, zx120, zx122, zx123, zx124, zx125, zx126, zx127, zx128, zx129, zx130, zx131, zx132, zx133, zx134, zx135, zx136, zx137, zx138, zx139, zx140, zx141, zx142, zx143, zx144, zx145, zg2, zg17, zg32, zgo3, zgo18, zgo33, zl47, zlo, zlp, zlx, zs90, zso, zsp, zsx, zt99, zto, ztp1, ztp2, ztgo, ztso, ztsp, ztsx, zc0, zi0, zc1, zi1, zc2, zi2, zc3, zi3, zc4, zi4, zc5, zi5, zin, zcl, nI_1, Bool.and_self, Bool.true_and, Bool.and_true, em, zle', h3]
theorem P_pour (a : Int32) : Pair (fxX9_pour (some 0) a) (fxX10_pour (some 121) a) := by
  intro lp M hI
  rcases sh_cases a with ha | ⟨ha, s, hs, rfl⟩
  · exact ⟨-1000000001, lp, M, M, by simp only [fxX9_pour, am_gd_t, am_lt_e, am_bd_s, bi_0, bi_bz, bz0, bz1, nz2, nz10, nz100, hp_gi, hp_si, ↓reduceIte, if_true, if_false, Bool.true_eq_false, Bool.false_eq_true, eq_self, reduceCtorEq, q_within, ha], by simp only [fxX10_pour, am_gd_t, am_lt_e, am_bd_s, bi_0, bi_bz, bz0, bz1, nz2, nz10, nz100, hp_gi, hp_si, ↓reduceIte, if_true, if_false, Bool.true_eq_false, Bool.false_eq_true, eq_self, reduceCtorEq, q_misSheet, ha], hI⟩
  obtain ⟨n, h1, h2, h3, h4, h5, h6, h7⟩ := hI.2.2.2.2.1.at hs
  obtain ⟨hm10, em⟩ := hI.1.1.2.2.2.2.1.n
  have ho := zso (lp := lp) (M := M) hs
  by_cases hm : M 137 s = -1
  · refine ⟨-1000000011, lp, M, M, ?_, ?_, hI⟩
    · simp (disch := omega) only [fxX9_pour, am_gd_t, am_lt_e, am_bd_s, bi_0, bi_bz, bz0, bz1, nz2, nz10, nz100, hp_gi, hp_si, ↓reduceIte, if_true, if_false, Bool.true_eq_false, Bool.false_eq_true, eq_self, reduceCtorEq, zo0, zp0_0, zp0_1, zp0_2, zp0_4, zp0_5, zp0_6, zp0_7, zp0_8, zp0_9, zp0_10, zo1, zp1_0, zp1_5, zp1_6, zp1_9, zo16, zp16_0, zp16_5, zp16_6, zp16_9, zo31, zp31_0, zp31_5, zp31_6, zp31_9, zo46, zp46_0, zp46_1, zp46_2, zo79, zp79_0, zo83, zp83_0, zp83_1, zp83_2, zo87, zp87_0, zp87_1, zo121, zp121_0, zp121_1, zp121_2, zp121_4, zp121_5, zp121_6, zp121_7, zp121_8, zp121_16, zp121_17, zp121_18, zp121_21, zp121_23, zp121_24, zp121_25, zp121_26, zp121_27, zp121_28, zp121_29, zp121_30, zp121_31, zp121_32, zp121_33, zp121_34, zp79_2, zx2, zx13, zx14, zx15, zx17, zx28, zx29, zx30, zx32, zx43, zx44, zx45, zx47, zx78, zx80, zx84, zx85, zx86, zx88, zx89, zx90, zx99, zx120, zx122, zx123, zx124, zx125, zx126, zx127, zx128, zx129, zx130, zx131, zx132, zx133, zx134, zx135, zx136, zx137, zx138, zx139, zx140, zx141, zx142, zx143, zx144, zx145, zg2, zg17, zg32, zgo3, zgo18, zgo33, zl47, zlo, zlp, zlx, zs90, zso, zsp, zsx, zt99, zto, ztp1, ztp2, ztgo, ztso, ztsp, ztsx, zc0, zi0, zc1, zi1, zc2, zi2, zc3, zi3, zc4, zi4, zc5, zi5, zin, zcl, nI_1, Bool.and_self, Bool.true_and, Bool.and_true, q_within, ha, q_isMissing ho, h4, hm, decide_true]
    · simp (disch := omega) only [fxX10_pour, am_gd_t, am_lt_e, am_bd_s, bi_0, bi_bz, bz0, bz1, nz2, nz10, nz100, hp_gi, hp_si, ↓reduceIte, if_true, if_false, Bool.true_eq_false, Bool.false_eq_true, eq_self, reduceCtorEq, zo0, zp0_0, zp0_1, zp0_2, zp0_4, zp0_5, zp0_6, zp0_7, zp0_8, zp0_9, zp0_10, zo1, zp1_0, zp1_5, zp1_6, zp1_9, zo16, zp16_0, zp16_5, zp16_6, zp16_9, zo31, zp31_0, zp31_5, zp31_6, zp31_9, zo46, zp46_0, zp46_1, zp46_2, zo79, zp79_0, zo83, zp83_0, zp83_1, zp83_2, zo87, zp87_0, zp87_1, zo121, zp121_0, zp121_1, zp121_2, zp121_4, zp121_5, zp121_6, zp121_7, zp121_8, zp121_16, zp121_17, zp121_18, zp121_21, zp121_23, zp121_24, zp121_25, zp121_26, zp121_27, zp121_28, zp121_29, zp121_30, zp121_31, zp121_32, zp121_33, zp121_34, zp79_2, zx2, zx13, zx14, zx15, zx17, zx28, zx29, zx30, zx32, zx43, zx44, zx45, zx47, zx78, zx80, zx84, zx85, zx86, zx88, zx89, zx90, zx99, zx120, zx122, zx123, zx124, zx125, zx126, zx127, zx128, zx129, zx130, zx131, zx132, zx133, zx134, zx135, zx136, zx137, zx138, zx139, zx140, zx141, zx142, zx143, zx144, zx145, zg2, zg17, zg32, zgo3, zgo18, zgo33, zl47, zlo, zlp, zlx, zs90, zso, zsp, zsx, zt99, zto, ztp1, ztp2, ztgo, ztso, ztsp, ztsx, zc0, zi0, zc1, zi1, zc2, zi2, zc3, zi3, zc4, zi4, zc5, zi5, zin, zcl, nI_1, Bool.and_self, Bool.true_and, Bool.and_true, q_misSheet, ha, hm, m1ge]
  obtain ⟨g0, g1⟩ := ge0 h5 hm
  obtain ⟨M1, q1, q2, q3⟩ := pour_c (lp := lp) (c := fun k => M 139 (24 * s + k)) hs h1 (cn (M 122 1)) 0 am_F 0 M (M 122) hI.1.1 (by omega) (by unfold am_F; omega) h2 h6
  have r122 : M1 122 = M 122 := q3 122 (by omega)
  obtain ⟨M2, r1, r2, r3⟩ := pour_m (lp := lp) (c := fun k => M 139 (24 * s + k)) hs h1 hm10 (cn (M 122 1)) 0 am_F 0 M1 (by rw [r122]; exact em) (by omega) (by unfold am_F; omega) (by rw [q3 138 (by omega)]; exact h3) (fun k hk => by rw [q3 139 (by omega)])
  rw [r122] at r1 r2
  refine ⟨(pourS (fun k => M 139 (24 * s + k)) n (cn (M 122 1)) 0 0 (M 122)).1, lp, M1, M2, ?_, ?_, ?_⟩
  · simp (disch := omega) only [fxX9_pour, am_gd_t, am_lt_e, am_bd_s, bi_0, bi_bz, bz0, bz1, nz2, nz10, nz100, hp_gi, hp_si, ↓reduceIte, if_true, if_false, Bool.true_eq_false, Bool.false_eq_true, eq_self, reduceCtorEq, zo0, zp0_0, zp0_1, zp0_2, zp0_4, zp0_5, zp0_6, zp0_7, zp0_8, zp0_9, zp0_10, zo1, zp1_0, zp1_5, zp1_6, zp1_9, zo16, zp16_0, zp16_5, zp16_6, zp16_9, zo31, zp31_0, zp31_5, zp31_6, zp31_9, zo46, zp46_0, zp46_1, zp46_2, zo79, zp79_0, zo83, zp83_0, zp83_1, zp83_2, zo87, zp87_0, zp87_1, zo121, zp121_0, zp121_1, zp121_2, zp121_4, zp121_5, zp121_6, zp121_7, zp121_8, zp121_16, zp121_17, zp121_18, zp121_21, zp121_23, zp121_24, zp121_25, zp121_26, zp121_27, zp121_28, zp121_29, zp121_30, zp121_31, zp121_32, zp121_33, zp121_34, zp79_2, zx2, zx13, zx14, zx15, zx17, zx28, zx29, zx30, zx32, zx43, zx44, zx45, zx47, zx78, zx80, zx84, zx85, zx86, zx88, zx89, zx90, zx99, zx120, zx122, zx123, zx124, zx125, zx126, zx127, zx128, zx129, zx130, zx131, zx132, zx133, zx134, zx135, zx136, zx137, zx138, zx139, zx140, zx141, zx142, zx143, zx144, zx145, zg2, zg17, zg32, zgo3, zgo18, zgo33, zl47, zlo, zlp, zlx, zs90, zso, zsp, zsx, zt99, zto, ztp1, ztp2, ztgo, ztso, ztsp, ztsx, zc0, zi0, zc1, zi1, zc2, zi2, zc3, zi3, zc4, zi4, zc5, zi5, zin, zcl, nI_1, Bool.and_self, Bool.true_and, Bool.and_true, q_within, ha, q_isMissing ho, h4, hm, decide_false]
    exact q1
  · have hg0 : ((0 : Int32) ≤ M1 137 s) = True := by rw [q3 137 (by omega)]; exact g0
    simp (disch := omega) only [fxX10_pour, am_gd_t, am_lt_e, am_bd_s, bi_0, bi_bz, bz0, bz1, nz2, nz10, nz100, hp_gi, hp_si, ↓reduceIte, if_true, if_false, Bool.true_eq_false, Bool.false_eq_true, eq_self, reduceCtorEq, zo0, zp0_0, zp0_1, zp0_2, zp0_4, zp0_5, zp0_6, zp0_7, zp0_8, zp0_9, zp0_10, zo1, zp1_0, zp1_5, zp1_6, zp1_9, zo16, zp16_0, zp16_5, zp16_6, zp16_9, zo31, zp31_0, zp31_5, zp31_6, zp31_9, zo46, zp46_0, zp46_1, zp46_2, zo79, zp79_0, zo83, zp83_0, zp83_1, zp83_2, zo87, zp87_0, zp87_1, zo121, zp121_0, zp121_1, zp121_2, zp121_4, zp121_5, zp121_6, zp121_7, zp121_8, zp121_16, zp121_17, zp121_18, zp121_21, zp121_23, zp121_24, zp121_25, zp121_26, zp121_27, zp121_28, zp121_29, zp121_30, zp121_31, zp121_32, zp121_33, zp121_34, zp79_2, zx2, zx13, zx14, zx15, zx17, zx28, zx29, zx30, zx32, zx43, zx44, zx45, zx47, zx78, zx80, zx84, zx85, zx86, zx88, zx89, zx90, zx99, zx120, zx122, zx123, zx124, zx125, zx126, zx127, zx128, zx129, zx130, zx131, zx132, zx133, zx134, zx135, zx136, zx137, zx138, zx139, zx140, zx141, zx142, zx143, zx144, zx145, zg2, zg17, zg32, zgo3, zgo18, zgo33, zl47, zlo, zlp, zlx, zs90, zso, zsp, zsx, zt99, zto, ztp1, ztp2, ztgo, ztso, ztsp, ztsx, zc0, zi0, zc1, zi1, zc2, zi2, zc3, zi3, zc4, zi4, zc5, zi5, zin, zcl, nI_1, Bool.and_self, Bool.true_and, Bool.and_true, q_misSheet, ha, hg0]
    exact r1
  · refine hI.now (fun z z1 z2 => by rw [r3 z z2, q3 z z1]) ?_ ?_ ?_
    · rw [r2]
      exact RC_congr (fun z z1 z2 => r3 z (by omega)) (fun z z1 z2 => r3 z (by omega)) q2
    · rw [r2, pourS_lo _ _ _ _ _ _ 2 (by decide)]; exact hI.1.2
    · rw [r2, pourS_lo _ _ _ _ _ _ 5 (by decide)]; exact Nat.le_refl _
/-! copy -/
theorem hp_cp {lp a b : Nat} {M : Mem} {sp dp n : Nat} : am_cp (hp lp M) (some a) (some b) sp dp n = hp lp (am_u1 M b (va_cpy (M a) (M b) sp dp n)) := Eq.trans rfl rfl
theorem cpok {lp a b p q m : Nat} {M : Mem} (ha : am_ar (hp lp M) (some a) 0 = true) (hb : am_ar (hp lp M) (some b) 0 = true) (la : am_ln (hp lp M) (some a) = 24) (lb : am_ln (hp lp M) (some b) = 24) (h1 : p + m ≤ 24) (h2 : q + m ≤ 24) : am_cpok (hp lp M) (some a) (some b) (nI p) (nI q) (nI m) = true := by
  unfold am_cpok
  rw [ha, hb, la, lb, zcl (by omega), zcl (by omega), zcl (by omega)]
  have n1 : ¬ nI p < 0 := nI_pos (by omega)
  have n2 : ¬ nI q < 0 := nI_pos (by omega)
  have n3 : ¬ nI m < 0 := nI_pos (by omega)
  simp [n1, n2, n3, h1, h2]
theorem ar_s {lp s : Nat} {M : Mem} (hs : s < 4) : am_ar (hp lp M) (some (92 + 2 * s)) 0 = true ∧ am_ln (hp lp M) (some (92 + 2 * s)) = 24 := by
  rcases (show s = 0 ∨ s = 1 ∨ s = 2 ∨ s = 3 by omega) with rfl | rfl | rfl | rfl <;> exact ⟨rfl, rfl⟩
theorem copy_m1 {lp s t p q m : Nat} (hs : s < 4) (ht : t < 4) (hp24 : p + m ≤ 24) : ∀ k i fuel (M : Mem), i + k = m → k < fuel → ∃ M', fxX10_copy_b104 fuel (some 121) (nI s) (nI p) (nI t) (nI q) (nI m) (nI i) (hp lp M) = fxX10_copy_b141 am_F (some 121) (nI t) (nI q) (nI m) 0 (hp lp M') ∧ (∀ z, z ≠ 144 → M' z = M z) ∧ ∀ j, M' 144 j = if i ≤ j ∧ j < m then M 139 (24 * s + p + j) else M 144 j := by
  intro k
  induction k with
  | zero =>
    intro i fuel M hi hf
    obtain ⟨fuel, rfl⟩ : ∃ f, fuel = f + 1 := ⟨fuel - 1, by omega⟩
    obtain rfl : i = m := by omega
    refine ⟨M, ?_, fun _ _ => rfl, fun j => by rw [if_neg (by omega)]⟩
    simp (disch := omega) only [fxX10_copy_b104, am_gd_t, am_lt_e, am_bd_s, bi_0, bi_bz, bz0, bz1, nz2, nz10, nz100, hp_gi, hp_si, ↓reduceIte, if_true, if_false, Bool.true_eq_false, Bool.false_eq_true, eq_self, reduceCtorEq, zo0, zp0_0, zp0_1, zp0_2, zp0_4, zp0_5, zp0_6, zp0_7, zp0_8, zp0_9, zp0_10, zo1, zp1_0, zp1_5, zp1_6, zp1_9, zo16, zp16_0, zp16_5, zp16_6, zp16_9, zo31, zp31_0, zp31_5, zp31_6, zp31_9, zo46, zp46_0, zp46_1, zp46_2, zo79, zp79_0, zo83, zp83_0, zp83_1, zp83_2, zo87, zp87_0, zp87_1, zo121, zp121_0, zp121_1, zp121_2, zp121_4, zp121_5, zp121_6, zp121_7, zp121_8, zp121_16, zp121_17, zp121_18, zp121_21, zp121_23, zp121_24, zp121_25, zp121_26, zp121_27, zp121_28, zp121_29, zp121_30, zp121_31, zp121_32, zp121_33, zp121_34, zp79_2, zx2, zx13, zx14, zx15, zx17, zx28, zx29, zx30, zx32, zx43, zx44, zx45, zx47, zx78, zx80, zx84, zx85, zx86, zx88, zx89, zx90, zx99, zx120, zx122, zx123, zx124, zx125, zx126, zx127, zx128, zx129, zx130, zx131, zx132, zx133, zx134, zx135, zx136, zx137, zx138, zx139, zx140, zx141, zx142, zx143, zx144, zx145, zg2, zg17, zg32, zgo3, zgo18, zgo33, zl47, zlo, zlp, zlx, zs90, zso, zsp, zsx, zt99, zto, ztp1, ztp2, ztgo, ztso, ztsp, ztsx, zc0, zi0, zc1, zi1, zc2, zi2, zc3, zi3, zc4, zi4, zc5, zi5, zin, zcl, nI_1, Bool.and_self, Bool.true_and, Bool.and_true, zle']
  | succ k ih =>
    intro i fuel M hi hf
    obtain ⟨fuel, rfl⟩ : ∃ f, fuel = f + 1 := ⟨fuel - 1, by omega⟩
    obtain ⟨M', q1, q2, q3⟩ := ih (i + 1) fuel (am_up M 144 i (M 139 (24 * s + p + i))) (by omega) (by omega)
    refine ⟨M', ?_, fun z hz => by rw [q2 z hz, am_up_ne hz], fun j => ?_⟩
    · simp (disch := omega) only [fxX10_copy_b104, am_gd_t, am_lt_e, am_bd_s, bi_0, bi_bz, bz0, bz1, nz2, nz10, nz100, hp_gi, hp_si, ↓reduceIte, if_true, if_false, Bool.true_eq_false, Bool.false_eq_true, eq_self, reduceCtorEq, zo0, zp0_0, zp0_1, zp0_2, zp0_4, zp0_5, zp0_6, zp0_7, zp0_8, zp0_9, zp0_10, zo1, zp1_0, zp1_5, zp1_6, zp1_9, zo16, zp16_0, zp16_5, zp16_6, zp16_9, zo31, zp31_0, zp31_5, zp31_6, zp31_9, zo46, zp46_0, zp46_1, zp46_2, zo79, zp79_0, zo83, zp83_0, zp83_1, zp83_2, zo87, zp87_0, zp87_1, zo121, zp121_0, zp121_1, zp121_2, zp121_4, zp121_5, zp121_6, zp121_7, zp121_8, zp121_16, zp121_17, zp121_18, zp121_21, zp121_23, zp121_24, zp121_25, zp121_26, zp121_27, zp121_28, zp121_29, zp121_30, zp121_31, zp121_32, zp121_33, zp121_34, zp79_2, zx2, zx13, zx14, zx15, zx17, zx28, zx29, zx30, zx32, zx43, zx44, zx45, zx47, zx78, zx80, zx84, zx85, zx86, zx88, zx89, zx90, zx99, zx120, zx122, zx123, zx124, zx125, zx126, zx127, zx128, zx129, zx130, zx131, zx132, zx133, zx134, zx135, zx136, zx137, zx138, zx139, zx140, zx141, zx142, zx143, zx144, zx145, zg2, zg17, zg32, zgo3, zgo18, zgo33, zl47, zlo, zlp, zlx, zs90, zso, zsp, zsx, zt99, zto, ztp1, ztp2, ztgo, ztso, ztsp, ztsx, zc0, zi0, zc1, zi1, zc2, zi2, zc3, zi3, zc4, zi4, zc5, zi5, zin, zcl, nI_1, Bool.and_self, Bool.true_and, Bool.and_true, zle, nI24, nI_add]
      exact q1
    · rw [q3 j, up_row, am_up_ne (by decide)]
      unfold up1
      by_cases h1 : j = i
      · subst h1
        rw [if_neg (by omega), if_pos rfl, if_pos (by omega)]
      · rw [if_neg h1]
        by_cases h2 : i + 1 ≤ j ∧ j < m
        · rw [if_pos h2, if_pos (by omega)]
        · rw [if_neg h2, if_neg (by omega)]
theorem copy_m2 {lp t q m : Nat} (ht : t < 4) (hq24 : q + m ≤ 24) : ∀ k i fuel (M : Mem), i + k = m → k < fuel → ∃ M', fxX10_copy_b141 fuel (some 121) (nI t) (nI q) (nI m) (nI i) (hp lp M) = some (nI m, hp lp M') ∧ (∀ z, z ≠ 139 → M' z = M z) ∧ ∀ j, M' 139 j = if 24 * t + q + i ≤ j ∧ j < 24 * t + q + m then M 144 (j - (24 * t + q)) else M 139 j := by
  intro k
  induction k with
  | zero =>
    intro i fuel M hi hf
    obtain ⟨fuel, rfl⟩ : ∃ f, fuel = f + 1 := ⟨fuel - 1, by omega⟩
    obtain rfl : i = m := by omega
    refine ⟨M, ?_, fun _ _ => rfl, fun j => by rw [if_neg (by omega)]⟩
    simp (disch := omega) only [fxX10_copy_b141, am_gd_t, am_lt_e, am_bd_s, bi_0, bi_bz, bz0, bz1, nz2, nz10, nz100, hp_gi, hp_si, ↓reduceIte, if_true, if_false, Bool.true_eq_false, Bool.false_eq_true, eq_self, reduceCtorEq, zo0, zp0_0, zp0_1, zp0_2, zp0_4, zp0_5, zp0_6, zp0_7, zp0_8, zp0_9, zp0_10, zo1, zp1_0, zp1_5, zp1_6, zp1_9, zo16, zp16_0, zp16_5, zp16_6, zp16_9, zo31, zp31_0, zp31_5, zp31_6, zp31_9, zo46, zp46_0, zp46_1, zp46_2, zo79, zp79_0, zo83, zp83_0, zp83_1, zp83_2, zo87, zp87_0, zp87_1, zo121, zp121_0, zp121_1, zp121_2, zp121_4, zp121_5, zp121_6, zp121_7, zp121_8, zp121_16, zp121_17, zp121_18, zp121_21, zp121_23, zp121_24, zp121_25, zp121_26, zp121_27, zp121_28, zp121_29, zp121_30, zp121_31, zp121_32, zp121_33, zp121_34, zp79_2, zx2, zx13, zx14, zx15, zx17, zx28, zx29, zx30, zx32, zx43, zx44, zx45, zx47, zx78, zx80, zx84, zx85, zx86, zx88, zx89, zx90, zx99, zx120, zx122, zx123, zx124, zx125, zx126, zx127, zx128, zx129, zx130, zx131, zx132, zx133, zx134, zx135, zx136, zx137, zx138, zx139, zx140, zx141, zx142, zx143, zx144, zx145, zg2, zg17, zg32, zgo3, zgo18, zgo33, zl47, zlo, zlp, zlx, zs90, zso, zsp, zsx, zt99, zto, ztp1, ztp2, ztgo, ztso, ztsp, ztsx, zc0, zi0, zc1, zi1, zc2, zi2, zc3, zi3, zc4, zi4, zc5, zi5, zin, zcl, nI_1, Bool.and_self, Bool.true_and, Bool.and_true, zle']
  | succ k ih =>
    intro i fuel M hi hf
    obtain ⟨fuel, rfl⟩ : ∃ f, fuel = f + 1 := ⟨fuel - 1, by omega⟩
    obtain ⟨M', q1, q2, q3⟩ := ih (i + 1) fuel (am_up M 139 (24 * t + q + i) (M 144 i)) (by omega) (by omega)
    refine ⟨M', ?_, fun z hz => by rw [q2 z hz, am_up_ne hz], fun j => ?_⟩
    · simp (disch := omega) only [fxX10_copy_b141, am_gd_t, am_lt_e, am_bd_s, bi_0, bi_bz, bz0, bz1, nz2, nz10, nz100, hp_gi, hp_si, ↓reduceIte, if_true, if_false, Bool.true_eq_false, Bool.false_eq_true, eq_self, reduceCtorEq, zo0, zp0_0, zp0_1, zp0_2, zp0_4, zp0_5, zp0_6, zp0_7, zp0_8, zp0_9, zp0_10, zo1, zp1_0, zp1_5, zp1_6, zp1_9, zo16, zp16_0, zp16_5, zp16_6, zp16_9, zo31, zp31_0, zp31_5, zp31_6, zp31_9, zo46, zp46_0, zp46_1, zp46_2, zo79, zp79_0, zo83, zp83_0, zp83_1, zp83_2, zo87, zp87_0, zp87_1, zo121, zp121_0, zp121_1, zp121_2, zp121_4, zp121_5, zp121_6, zp121_7, zp121_8, zp121_16, zp121_17, zp121_18, zp121_21, zp121_23, zp121_24, zp121_25, zp121_26, zp121_27, zp121_28, zp121_29, zp121_30, zp121_31, zp121_32, zp121_33, zp121_34, zp79_2, zx2, zx13, zx14, zx15, zx17, zx28, zx29, zx30, zx32, zx43, zx44, zx45, zx47, zx78, zx80, zx84, zx85, zx86, zx88, zx89, zx90, zx99, zx120, zx122, zx123, zx124, zx125, zx126, zx127, zx128, zx129, zx130, zx131, zx132, zx133, zx134, zx135, zx136, zx137, zx138, zx139, zx140, zx141, zx142, zx143, zx144, zx145, zg2, zg17, zg32, zgo3, zgo18, zgo33, zl47, zlo, zlp, zlx, zs90, zso, zsp, zsx, zt99, zto, ztp1, ztp2, ztgo, ztso, ztsp, ztsx, zc0, zi0, zc1, zi1, zc2, zi2, zc3, zi3, zc4, zi4, zc5, zi5, zin, zcl, nI_1, Bool.and_self, Bool.true_and, Bool.and_true, zle, nI24, nI_add]
      exact q1
    · rw [q3 j, up_row, am_up_ne (by decide)]
      unfold up1
      by_cases h1 : j = 24 * t + q + i
      · subst h1
        rw [if_neg (by omega), if_pos rfl, if_pos (by omega), show 24 * t + q + i - (24 * t + q) = i by omega]
      · rw [if_neg h1]
        by_cases h2 : 24 * t + q + (i + 1) ≤ j ∧ j < 24 * t + q + m
        · rw [if_pos h2, if_pos (by omega)]
        · rw [if_neg h2, if_neg (by omega)]
theorem sub24 {n m : Nat} (hn : n ≤ 24) (hm : m < 2147483648) : (nI n - nI m).toInt = (n : Int) - m := by
  rw [Int32.toInt_sub, nI_toInt (by omega), nI_toInt (by omega)]
  exact Int.bmod_eq_of_le (by omega) (by omega)
/-- places that a sheet has: asked in two ways -/
theorem places_eq {n p m : Nat} (hn : n ≤ 24) (hp : p < 2147483648) (hm : m < 2147483648) : (iw (nI p) 0 (nI n) && iw (nI m) 0 (nI n - nI p)) = decide (p + m ≤ n) ∧ (nI p ≤ nI n - nI m ↔ p + m ≤ n) := by
  have e1 := sub24 hn hp
  have e2 := sub24 hn hm
  have t1 := nI_toInt (n := p) (by omega)
  have t2 := nI_toInt (n := m) (by omega)
  have t3 := nI_toInt (n := n) (by omega)
  have t0 : (0 : Int32).toInt = 0 := rfl
  constructor
  · simp only [iw, Int32.le_iff_toInt_le, e1, t1, t2, t3, t0]
    by_cases h : p + m ≤ n
    · simp [h]; omega
    · simp only [h, decide_false, Bool.and_eq_false_iff, decide_eq_false_iff_not]; omega
  · rw [Int32.le_iff_toInt_le, e2, t1]
    omega
theorem iw_neg {x b : Int32} (h : x < 0) : iw x 0 b = false := by
  have : ¬ (0 : Int32) ≤ x := Int32.not_le.mpr h
  simp [iw, this]
theorem P_copy (a b c d e : Int32) : Pair (fxX9_copy (some 0) a b c d e) (fxX10_copy (some 121) a b c d e) := by
  intro lp M hI
  rcases sh_cases a with ha | ⟨ha, s, hs, rfl⟩
  · exact ⟨-1000000001, lp, M, M, by simp only [fxX9_copy, am_gd_t, am_lt_e, am_bd_s, bi_0, bi_bz, bz0, bz1, nz2, nz10, nz100, hp_gi, hp_si, ↓reduceIte, if_true, if_false, Bool.true_eq_false, Bool.false_eq_true, eq_self, reduceCtorEq, q_within, ha], by simp only [fxX10_copy, am_gd_t, am_lt_e, am_bd_s, bi_0, bi_bz, bz0, bz1, nz2, nz10, nz100, hp_gi, hp_si, ↓reduceIte, if_true, if_false, Bool.true_eq_false, Bool.false_eq_true, eq_self, reduceCtorEq, q_misSheet, ha], hI⟩
  rcases sh_cases c with hc | ⟨hc, t, ht, rfl⟩
  · exact ⟨-1000000001, lp, M, M, by simp only [fxX9_copy, am_gd_t, am_lt_e, am_bd_s, bi_0, bi_bz, bz0, bz1, nz2, nz10, nz100, hp_gi, hp_si, ↓reduceIte, if_true, if_false, Bool.true_eq_false, Bool.false_eq_true, eq_self, reduceCtorEq, q_within, ha, hc], by simp only [fxX10_copy, am_gd_t, am_lt_e, am_bd_s, bi_0, bi_bz, bz0, bz1, nz2, nz10, nz100, hp_gi, hp_si, ↓reduceIte, if_true, if_false, Bool.true_eq_false, Bool.false_eq_true, eq_self, reduceCtorEq, q_misSheet, ha, hc], hI⟩
  obtain ⟨n, h1, h2, h3, h4, h5, h6, h7⟩ := hI.2.2.2.2.1.at hs
  obtain ⟨n', k1, k2, k3, k4, k5, k6, k7⟩ := hI.2.2.2.2.1.at ht
  have ho := zso (lp := lp) (M := M) hs
  have ho' := zso (lp := lp) (M := M) ht
  by_cases hm : M 137 s = -1
  · refine ⟨-1000000011, lp, M, M, ?_, ?_, hI⟩
    · simp (disch := omega) only [fxX9_copy, am_gd_t, am_lt_e, am_bd_s, bi_0, bi_bz, bz0, bz1, nz2, nz10, nz100, hp_gi, hp_si, ↓reduceIte, if_true, if_false, Bool.true_eq_false, Bool.false_eq_true, eq_self, reduceCtorEq, zo0, zp0_0, zp0_1, zp0_2, zp0_4, zp0_5, zp0_6, zp0_7, zp0_8, zp0_9, zp0_10, zo1, zp1_0, zp1_5, zp1_6, zp1_9, zo16, zp16_0, zp16_5, zp16_6, zp16_9, zo31, zp31_0, zp31_5, zp31_6, zp31_9, zo46, zp46_0, zp46_1, zp46_2, zo79, zp79_0, zo83, zp83_0, zp83_1, zp83_2, zo87, zp87_0, zp87_1, zo121, zp121_0, zp121_1, zp121_2, zp121_4, zp121_5, zp121_6, zp121_7, zp121_8, zp121_16, zp121_17, zp121_18, zp121_21, zp121_23, zp121_24, zp121_25, zp121_26, zp121_27, zp121_28, zp121_29, zp121_30, zp121_31, zp121_32, zp121_33, zp121_34, zp79_2, zx2, zx13, zx14, zx15, zx17, zx28, zx29, zx30, zx32, zx43, zx44, zx45, zx47, zx78, zx80, zx84, zx85, zx86, zx88, zx89, zx90, zx99, zx120, zx122, zx123, zx124, zx125, zx126, zx127, zx128, zx129, zx130, zx131, zx132, zx133, zx134, zx135, zx136, zx137, zx138, zx139, zx140, zx141, zx142, zx143, zx144, zx145, zg2, zg17, zg32, zgo3, zgo18, zgo33, zl47, zlo, zlp, zlx, zs90, zso, zsp, zsx, zt99, zto, ztp1, ztp2, ztgo, ztso, ztsp, ztsx, zc0, zi0, zc1, zi1, zc2, zi2, zc3, zi3, zc4, zi4, zc5, zi5, zin, zcl, nI_1, Bool.and_self, Bool.true_and, Bool.and_true, q_within, ha, hc, q_isMissing ho, h4, hm, decide_true]
    · simp (maxSteps := 1000000) (disch := omega) only [fxX10_copy, am_gd_t, am_lt_e, am_bd_s, bi_0, bi_bz, bz0, bz1, nz2, nz10, nz100, hp_gi, hp_si, ↓reduceIte, if_true, if_false, Bool.true_eq_false, Bool.false_eq_true, eq_self, reduceCtorEq, zo0, zp0_0, zp0_1, zp0_2, zp0_4, zp0_5, zp0_6, zp0_7, zp0_8, zp0_9, zp0_10, zo1, zp1_0, zp1_5, zp1_6, zp1_9, zo16, zp16_0, zp16_5, zp16_6, zp16_9, zo31, zp31_0, zp31_5, zp31_6, zp31_9, zo46, zp46_0, zp46_1, zp46_2, zo79, zp79_0, zo83, zp83_0, zp83_1, zp83_2, zo87, zp87_0, zp87_1, zo121, zp121_0, zp121_1, zp121_2, zp121_4, zp121_5, zp121_6, zp121_7, zp121_8, zp121_16, zp121_17, zp121_18, zp121_21, zp121_23, zp121_24, zp121_25, zp121_26, zp121_27, zp121_28, zp121_29, zp121_30, zp121_31, zp121_32, zp121_33, zp121_34, zp79_2, zx2, zx13, zx14, zx15, zx17, zx28, zx29, zx30, zx32, zx43, zx44, zx45, zx47, zx78, zx80, zx84, zx85, zx86, zx88, zx89, zx90, zx99, zx120, zx122, zx123, zx124, zx125, zx126, zx127, zx128, zx129, zx130, zx131, zx132, zx133, zx134, zx135, zx136, zx137, zx138, zx139, zx140, zx141, zx142, zx143, zx144, zx145, zg2, zg17, zg32, zgo3, zgo18, zgo33, zl47, zlo, zlp, zlx, zs90, zso, zsp, zsx, zt99, zto, ztp1, ztp2, ztgo, ztso, ztsp, ztsx, zc0, zi0, zc1, zi1, zc2, zi2, zc3, zi3, zc4, zi4, zc5, zi5, zin, zcl, nI_1, Bool.and_self, Bool.true_and, Bool.and_true, q_misSheet, ha, hc, hm, m1lt]
  obtain ⟨g0, g1⟩ := ge0 h5 hm
  by_cases hm' : M 137 t = -1
  · refine ⟨-1000000011, lp, M, M, ?_, ?_, hI⟩
    · simp (disch := omega) only [fxX9_copy, am_gd_t, am_lt_e, am_bd_s, bi_0, bi_bz, bz0, bz1, nz2, nz10, nz100, hp_gi, hp_si, ↓reduceIte, if_true, if_false, Bool.true_eq_false, Bool.false_eq_true, eq_self, reduceCtorEq, zo0, zp0_0, zp0_1, zp0_2, zp0_4, zp0_5, zp0_6, zp0_7, zp0_8, zp0_9, zp0_10, zo1, zp1_0, zp1_5, zp1_6, zp1_9, zo16, zp16_0, zp16_5, zp16_6, zp16_9, zo31, zp31_0, zp31_5, zp31_6, zp31_9, zo46, zp46_0, zp46_1, zp46_2, zo79, zp79_0, zo83, zp83_0, zp83_1, zp83_2, zo87, zp87_0, zp87_1, zo121, zp121_0, zp121_1, zp121_2, zp121_4, zp121_5, zp121_6, zp121_7, zp121_8, zp121_16, zp121_17, zp121_18, zp121_21, zp121_23, zp121_24, zp121_25, zp121_26, zp121_27, zp121_28, zp121_29, zp121_30, zp121_31, zp121_32, zp121_33, zp121_34, zp79_2, zx2, zx13, zx14, zx15, zx17, zx28, zx29, zx30, zx32, zx43, zx44, zx45, zx47, zx78, zx80, zx84, zx85, zx86, zx88, zx89, zx90, zx99, zx120, zx122, zx123, zx124, zx125, zx126, zx127, zx128, zx129, zx130, zx131, zx132, zx133, zx134, zx135, zx136, zx137, zx138, zx139, zx140, zx141, zx142, zx143, zx144, zx145, zg2, zg17, zg32, zgo3, zgo18, zgo33, zl47, zlo, zlp, zlx, zs90, zso, zsp, zsx, zt99, zto, ztp1, ztp2, ztgo, ztso, ztsp, ztsx, zc0, zi0, zc1, zi1, zc2, zi2, zc3, zi3, zc4, zi4, zc5, zi5, zin, zcl, nI_1, Bool.and_self, Bool.true_and, Bool.and_true, q_within, ha, hc, q_isMissing ho, q_isMissing ho', h4, hm, k4, hm', decide_true, decide_false]
    · simp (maxSteps := 1000000) (disch := omega) only [fxX10_copy, am_gd_t, am_lt_e, am_bd_s, bi_0, bi_bz, bz0, bz1, nz2, nz10, nz100, hp_gi, hp_si, ↓reduceIte, if_true, if_false, Bool.true_eq_false, Bool.false_eq_true, eq_self, reduceCtorEq, zo0, zp0_0, zp0_1, zp0_2, zp0_4, zp0_5, zp0_6, zp0_7, zp0_8, zp0_9, zp0_10, zo1, zp1_0, zp1_5, zp1_6, zp1_9, zo16, zp16_0, zp16_5, zp16_6, zp16_9, zo31, zp31_0, zp31_5, zp31_6, zp31_9, zo46, zp46_0, zp46_1, zp46_2, zo79, zp79_0, zo83, zp83_0, zp83_1, zp83_2, zo87, zp87_0, zp87_1, zo121, zp121_0, zp121_1, zp121_2, zp121_4, zp121_5, zp121_6, zp121_7, zp121_8, zp121_16, zp121_17, zp121_18, zp121_21, zp121_23, zp121_24, zp121_25, zp121_26, zp121_27, zp121_28, zp121_29, zp121_30, zp121_31, zp121_32, zp121_33, zp121_34, zp79_2, zx2, zx13, zx14, zx15, zx17, zx28, zx29, zx30, zx32, zx43, zx44, zx45, zx47, zx78, zx80, zx84, zx85, zx86, zx88, zx89, zx90, zx99, zx120, zx122, zx123, zx124, zx125, zx126, zx127, zx128, zx129, zx130, zx131, zx132, zx133, zx134, zx135, zx136, zx137, zx138, zx139, zx140, zx141, zx142, zx143, zx144, zx145, zg2, zg17, zg32, zgo3, zgo18, zgo33, zl47, zlo, zlp, zlx, zs90, zso, zsp, zsx, zt99, zto, ztp1, ztp2, ztgo, ztso, ztsp, ztsx, zc0, zi0, zc1, zi1, zc2, zi2, zc3, zi3, zc4, zi4, zc5, zi5, zin, zcl, nI_1, Bool.and_self, Bool.true_and, Bool.and_true, q_misSheet, ha, hc, g1, hm', m1ge]
  obtain ⟨g0', g1'⟩ := ge0 k5 hm'
  by_cases hk : M 137 s = M 137 t
  case neg =>
    refine ⟨-1000000012, lp, M, M, ?_, ?_, hI⟩
    · simp (disch := omega) only [fxX9_copy, am_gd_t, am_lt_e, am_bd_s, bi_0, bi_bz, bz0, bz1, nz2, nz10, nz100, hp_gi, hp_si, ↓reduceIte, if_true, if_false, Bool.true_eq_false, Bool.false_eq_true, eq_self, reduceCtorEq, zo0, zp0_0, zp0_1, zp0_2, zp0_4, zp0_5, zp0_6, zp0_7, zp0_8, zp0_9, zp0_10, zo1, zp1_0, zp1_5, zp1_6, zp1_9, zo16, zp16_0, zp16_5, zp16_6, zp16_9, zo31, zp31_0, zp31_5, zp31_6, zp31_9, zo46, zp46_0, zp46_1, zp46_2, zo79, zp79_0, zo83, zp83_0, zp83_1, zp83_2, zo87, zp87_0, zp87_1, zo121, zp121_0, zp121_1, zp121_2, zp121_4, zp121_5, zp121_6, zp121_7, zp121_8, zp121_16, zp121_17, zp121_18, zp121_21, zp121_23, zp121_24, zp121_25, zp121_26, zp121_27, zp121_28, zp121_29, zp121_30, zp121_31, zp121_32, zp121_33, zp121_34, zp79_2, zx2, zx13, zx14, zx15, zx17, zx28, zx29, zx30, zx32, zx43, zx44, zx45, zx47, zx78, zx80, zx84, zx85, zx86, zx88, zx89, zx90, zx99, zx120, zx122, zx123, zx124, zx125, zx126, zx127, zx128, zx129, zx130, zx131, zx132, zx133, zx134, zx135, zx136, zx137, zx138, zx139, zx140, zx141, zx142, zx143, zx144, zx145, zg2, zg17, zg32, zgo3, zgo18, zgo33, zl47, zlo, zlp, zlx, zs90, zso, zsp, zsx, zt99, zto, ztp1, ztp2, ztgo, ztso, ztsp, ztsx, zc0, zi0, zc1, zi1, zc2, zi2, zc3, zi3, zc4, zi4, zc5, zi5, zin, zcl, nI_1, Bool.and_self, Bool.true_and, Bool.and_true, q_within, ha, hc, q_isMissing ho, q_isMissing ho', h4, hm, k4, hm', decide_false, hk]
    · simp (maxSteps := 1000000) (disch := omega) only [fxX10_copy, am_gd_t, am_lt_e, am_bd_s, bi_0, bi_bz, bz0, bz1, nz2, nz10, nz100, hp_gi, hp_si, ↓reduceIte, if_true, if_false, Bool.true_eq_false, Bool.false_eq_true, eq_self, reduceCtorEq, zo0, zp0_0, zp0_1, zp0_2, zp0_4, zp0_5, zp0_6, zp0_7, zp0_8, zp0_9, zp0_10, zo1, zp1_0, zp1_5, zp1_6, zp1_9, zo16, zp16_0, zp16_5, zp16_6, zp16_9, zo31, zp31_0, zp31_5, zp31_6, zp31_9, zo46, zp46_0, zp46_1, zp46_2, zo79, zp79_0, zo83, zp83_0, zp83_1, zp83_2, zo87, zp87_0, zp87_1, zo121, zp121_0, zp121_1, zp121_2, zp121_4, zp121_5, zp121_6, zp121_7, zp121_8, zp121_16, zp121_17, zp121_18, zp121_21, zp121_23, zp121_24, zp121_25, zp121_26, zp121_27, zp121_28, zp121_29, zp121_30, zp121_31, zp121_32, zp121_33, zp121_34, zp79_2, zx2, zx13, zx14, zx15, zx17, zx28, zx29, zx30, zx32, zx43, zx44, zx45, zx47, zx78, zx80, zx84, zx85, zx86, zx88, zx89, zx90, zx99, zx120, zx122, zx123, zx124, zx125, zx126, zx127, zx128, zx129, zx130, zx131, zx132, zx133, zx134, zx135, zx136, zx137, zx138, zx139, zx140, zx141, zx142, zx143, zx144, zx145, zg2, zg17, zg32, zgo3, zgo18, zgo33, zl47, zlo, zlp, zlx, zs90, zso, zsp, zsx, zt99, zto, ztp1, ztp2, ztgo, ztso, ztsp, ztsx, zc0, zi0, zc1, zi1, zc2, zi2, zc3, zi3, zc4, zi4, zc5, zi5, zin, zcl, nI_1, Bool.and_self, Bool.true_and, Bool.and_true, q_misSheet, ha, hc, g1, g0', hk]
  case pos =>
  have cls : ∀ x, (iw b 0 (nI n) && iw e 0 (nI n - b)) = x → fxX9_copy (some 0) (nI s) b (nI t) d e (hp lp M) = if x = false then some (-1000000013, hp lp M) else if (iw d 0 (nI n') && iw e 0 (nI n' - d)) = false then some (-1000000013, hp lp M) else (am_gd (am_cpok (hp lp M) (some (92 + 2 * s)) (some (92 + 2 * t)) b d e) (am_lt (am_cp (hp lp M) (some (92 + 2 * s)) (some (92 + 2 * t)) b.toNatClampNeg d.toNatClampNeg e.toNatClampNeg) (fun h15 => some (e, h15)))) := by
    intro x hx
    simp (disch := omega) only [fxX9_copy, am_gd_t, am_lt_e, am_bd_s, bi_0, bi_bz, bz0, bz1, nz2, nz10, nz100, hp_gi, hp_si, ↓reduceIte, if_true, if_false, Bool.true_eq_false, Bool.false_eq_true, eq_self, reduceCtorEq, zo0, zp0_0, zp0_1, zp0_2, zp0_4, zp0_5, zp0_6, zp0_7, zp0_8, zp0_9, zp0_10, zo1, zp1_0, zp1_5, zp1_6, zp1_9, zo16, zp16_0, zp16_5, zp16_6, zp16_9, zo31, zp31_0, zp31_5, zp31_6, zp31_9, zo46, zp46_0, zp46_1, zp46_2, zo79, zp79_0, zo83, zp83_0, zp83_1, zp83_2, zo87, zp87_0, zp87_1, zo121, zp121_0, zp121_1, zp121_2, zp121_4, zp121_5, zp121_6, zp121_7, zp121_8, zp121_16, zp121_17, zp121_18, zp121_21, zp121_23, zp121_24, zp121_25, zp121_26, zp121_27, zp121_28, zp121_29, zp121_30, zp121_31, zp121_32, zp121_33, zp121_34, zp79_2, zx2, zx13, zx14, zx15, zx17, zx28, zx29, zx30, zx32, zx43, zx44, zx45, zx47, zx78, zx80, zx84, zx85, zx86, zx88, zx89, zx90, zx99, zx120, zx122, zx123, zx124, zx125, zx126, zx127, zx128, zx129, zx130, zx131, zx132, zx133, zx134, zx135, zx136, zx137, zx138, zx139, zx140, zx141, zx142, zx143, zx144, zx145, zg2, zg17, zg32, zgo3, zgo18, zgo33, zl47, zlo, zlp, zlx, zs90, zso, zsp, zsx, zt99, zto, ztp1, ztp2, ztgo, ztso, ztsp, ztsx, zc0, zi0, zc1, zi1, zc2, zi2, zc3, zi3, zc4, zi4, zc5, zi5, zin, zcl, nI_1, Bool.and_self, Bool.true_and, Bool.and_true, q_within, ha, hc, q_isMissing ho, q_isMissing ho', h4, hm, k4, hm', decide_false, hk, q_hasPlaces ho, q_hasPlaces ho', h2, k2, hx]
  by_cases nb : b < 0
  · refine ⟨-1000000013, lp, M, M, ?_, ?_, hI⟩
    · rw [cls false (by rw [iw_neg nb]; rfl)]; rfl
    · simp (maxSteps := 1000000) (disch := omega) only [fxX10_copy, am_gd_t, am_lt_e, am_bd_s, bi_0, bi_bz, bz0, bz1, nz2, nz10, nz100, hp_gi, hp_si, ↓reduceIte, if_true, if_false, Bool.true_eq_false, Bool.false_eq_true, eq_self, reduceCtorEq, zo0, zp0_0, zp0_1, zp0_2, zp0_4, zp0_5, zp0_6, zp0_7, zp0_8, zp0_9, zp0_10, zo1, zp1_0, zp1_5, zp1_6, zp1_9, zo16, zp16_0, zp16_5, zp16_6, zp16_9, zo31, zp31_0, zp31_5, zp31_6, zp31_9, zo46, zp46_0, zp46_1, zp46_2, zo79, zp79_0, zo83, zp83_0, zp83_1, zp83_2, zo87, zp87_0, zp87_1, zo121, zp121_0, zp121_1, zp121_2, zp121_4, zp121_5, zp121_6, zp121_7, zp121_8, zp121_16, zp121_17, zp121_18, zp121_21, zp121_23, zp121_24, zp121_25, zp121_26, zp121_27, zp121_28, zp121_29, zp121_30, zp121_31, zp121_32, zp121_33, zp121_34, zp79_2, zx2, zx13, zx14, zx15, zx17, zx28, zx29, zx30, zx32, zx43, zx44, zx45, zx47, zx78, zx80, zx84, zx85, zx86, zx88, zx89, zx90, zx99, zx120, zx122, zx123, zx124, zx125, zx126, zx127, zx128, zx129, zx130, zx131, zx132, zx133, zx134, zx135, zx136, zx137, zx138, zx139, zx140, zx141, zx142, zx143, zx144, zx145, zg2, zg17, zg32, zgo3, zgo18, zgo33, zl47, zlo, zlp, zlx, zs90, zso, zsp, zsx, zt99, zto, ztp1, ztp2, ztgo, ztso, ztsp, ztsx, zc0, zi0, zc1, zi1, zc2, zi2, zc3, zi3, zc4, zi4, zc5, zi5, zin, zcl, nI_1, Bool.and_self, Bool.true_and, Bool.and_true, q_misSheet, ha, hc, g1, g0', hk, nb, g1']
  by_cases nd : d < 0
  · refine ⟨-1000000013, lp, M, M, ?_, ?_, hI⟩
    · rw [cls _ rfl, iw_neg nd]; simp only [Bool.false_and, ↓reduceIte, if_true, if_false, Bool.true_eq_false, Bool.false_eq_true, eq_self, reduceCtorEq, ite_self]
    · simp (maxSteps := 1000000) (disch := omega) only [fxX10_copy, am_gd_t, am_lt_e, am_bd_s, bi_0, bi_bz, bz0, bz1, nz2, nz10, nz100, hp_gi, hp_si, ↓reduceIte, if_true, if_false, Bool.true_eq_false, Bool.false_eq_true, eq_self, reduceCtorEq, zo0, zp0_0, zp0_1, zp0_2, zp0_4, zp0_5, zp0_6, zp0_7, zp0_8, zp0_9, zp0_10, zo1, zp1_0, zp1_5, zp1_6, zp1_9, zo16, zp16_0, zp16_5, zp16_6, zp16_9, zo31, zp31_0, zp31_5, zp31_6, zp31_9, zo46, zp46_0, zp46_1, zp46_2, zo79, zp79_0, zo83, zp83_0, zp83_1, zp83_2, zo87, zp87_0, zp87_1, zo121, zp121_0, zp121_1, zp121_2, zp121_4, zp121_5, zp121_6, zp121_7, zp121_8, zp121_16, zp121_17, zp121_18, zp121_21, zp121_23, zp121_24, zp121_25, zp121_26, zp121_27, zp121_28, zp121_29, zp121_30, zp121_31, zp121_32, zp121_33, zp121_34, zp79_2, zx2, zx13, zx14, zx15, zx17, zx28, zx29, zx30, zx32, zx43, zx44, zx45, zx47, zx78, zx80, zx84, zx85, zx86, zx88, zx89, zx90, zx99, zx120, zx122, zx123, zx124, zx125, zx126, zx127, zx128, zx129, zx130, zx131, zx132, zx133, zx134, zx135, zx136, zx137, zx138, zx139, zx140, zx141, zx142, zx143, zx144, zx145, zg2, zg17, zg32, zgo3, zgo18, zgo33, zl47, zlo, zlp, zlx, zs90, zso, zsp, zsx, zt99, zto, ztp1, ztp2, ztgo, ztso, ztsp, ztsx, zc0, zi0, zc1, zi1, zc2, zi2, zc3, zi3, zc4, zi4, zc5, zi5, zin, zcl, nI_1, Bool.and_self, Bool.true_and, Bool.and_true, q_misSheet, ha, hc, g1, g0', hk, nb, nd, g1']
  by_cases ne : e < 0
  · refine ⟨-1000000013, lp, M, M, ?_, ?_, hI⟩
    · rw [cls false (by rw [iw_neg ne, Bool.and_false])]; rfl
    · simp (maxSteps := 1000000) (disch := omega) only [fxX10_copy, am_gd_t, am_lt_e, am_bd_s, bi_0, bi_bz, bz0, bz1, nz2, nz10, nz100, hp_gi, hp_si, ↓reduceIte, if_true, if_false, Bool.true_eq_false, Bool.false_eq_true, eq_self, reduceCtorEq, zo0, zp0_0, zp0_1, zp0_2, zp0_4, zp0_5, zp0_6, zp0_7, zp0_8, zp0_9, zp0_10, zo1, zp1_0, zp1_5, zp1_6, zp1_9, zo16, zp16_0, zp16_5, zp16_6, zp16_9, zo31, zp31_0, zp31_5, zp31_6, zp31_9, zo46, zp46_0, zp46_1, zp46_2, zo79, zp79_0, zo83, zp83_0, zp83_1, zp83_2, zo87, zp87_0, zp87_1, zo121, zp121_0, zp121_1, zp121_2, zp121_4, zp121_5, zp121_6, zp121_7, zp121_8, zp121_16, zp121_17, zp121_18, zp121_21, zp121_23, zp121_24, zp121_25, zp121_26, zp121_27, zp121_28, zp121_29, zp121_30, zp121_31, zp121_32, zp121_33, zp121_34, zp79_2, zx2, zx13, zx14, zx15, zx17, zx28, zx29, zx30, zx32, zx43, zx44, zx45, zx47, zx78, zx80, zx84, zx85, zx86, zx88, zx89, zx90, zx99, zx120, zx122, zx123, zx124, zx125, zx126, zx127, zx128, zx129, zx130, zx131, zx132, zx133, zx134, zx135, zx136, zx137, zx138, zx139, zx140, zx141, zx142, zx143, zx144, zx145, zg2, zg17, zg32, zgo3, zgo18, zgo33, zl47, zlo, zlp, zlx, zs90, zso, zsp, zsx, zt99, zto, ztp1, ztp2, ztgo, ztso, ztsp, ztsx, zc0, zi0, zc1, zi1, zc2, zi2, zc3, zi3, zc4, zi4, zc5, zi5, zin, zcl, nI_1, Bool.and_self, Bool.true_and, Bool.and_true, q_misSheet, ha, hc, g1, g0', hk, nb, nd, ne, g1']
  obtain ⟨p, hp', rfl⟩ := nI_of nb
  obtain ⟨q, hq', rfl⟩ := nI_of nd
  obtain ⟨m, hm2, rfl⟩ := nI_of ne
  obtain ⟨P1, P2⟩ := places_eq h1 hp' hm2
  obtain ⟨Q1, Q2⟩ := places_eq k1 hq' hm2
  have P3 : (nI n - nI m < nI p) = ¬ (p + m ≤ n) := by rw [← P2]; exact propext Int32.not_le.symm
  have Q3 : (nI q ≤ nI n' - nI m) = (q + m ≤ n') := propext Q2
  by_cases c1 : p + m ≤ n
  case neg =>
    refine ⟨-1000000013, lp, M, M, ?_, ?_, hI⟩
    · rw [cls _ rfl, P1]; simp only [c1, decide_false, ↓reduceIte, if_true, if_false, Bool.true_eq_false, Bool.false_eq_true, eq_self, reduceCtorEq]
    · simp (maxSteps := 1000000) (disch := omega) only [fxX10_copy, am_gd_t, am_lt_e, am_bd_s, bi_0, bi_bz, bz0, bz1, nz2, nz10, nz100, hp_gi, hp_si, ↓reduceIte, if_true, if_false, Bool.true_eq_false, Bool.false_eq_true, eq_self, reduceCtorEq, zo0, zp0_0, zp0_1, zp0_2, zp0_4, zp0_5, zp0_6, zp0_7, zp0_8, zp0_9, zp0_10, zo1, zp1_0, zp1_5, zp1_6, zp1_9, zo16, zp16_0, zp16_5, zp16_6, zp16_9, zo31, zp31_0, zp31_5, zp31_6, zp31_9, zo46, zp46_0, zp46_1, zp46_2, zo79, zp79_0, zo83, zp83_0, zp83_1, zp83_2, zo87, zp87_0, zp87_1, zo121, zp121_0, zp121_1, zp121_2, zp121_4, zp121_5, zp121_6, zp121_7, zp121_8, zp121_16, zp121_17, zp121_18, zp121_21, zp121_23, zp121_24, zp121_25, zp121_26, zp121_27, zp121_28, zp121_29, zp121_30, zp121_31, zp121_32, zp121_33, zp121_34, zp79_2, zx2, zx13, zx14, zx15, zx17, zx28, zx29, zx30, zx32, zx43, zx44, zx45, zx47, zx78, zx80, zx84, zx85, zx86, zx88, zx89, zx90, zx99, zx120, zx122, zx123, zx124, zx125, zx126, zx127, zx128, zx129, zx130, zx131, zx132, zx133, zx134, zx135, zx136, zx137, zx138, zx139, zx140, zx141, zx142, zx143, zx144, zx145, zg2, zg17, zg32, zgo3, zgo18, zgo33, zl47, zlo, zlp, zlx, zs90, zso, zsp, zsx, zt99, zto, ztp1, ztp2, ztgo, ztso, ztsp, ztsx, zc0, zi0, zc1, zi1, zc2, zi2, zc3, zi3, zc4, zi4, zc5, zi5, zin, zcl, nI_1, Bool.and_self, Bool.true_and, Bool.and_true, q_misSheet, ha, hc, g1, g0', hk, nb, nd, ne, h3, P3, c1, not_false_eq_true, g1']
  case pos =>
  by_cases c2 : q + m ≤ n'
  case neg =>
    refine ⟨-1000000013, lp, M, M, ?_, ?_, hI⟩
    · rw [cls _ rfl, Q1]; simp only [c2, decide_false, ↓reduceIte, if_true, if_false, Bool.true_eq_false, Bool.false_eq_true, eq_self, reduceCtorEq, ite_self]
    · simp (maxSteps := 1000000) (disch := omega) only [fxX10_copy, am_gd_t, am_lt_e, am_bd_s, bi_0, bi_bz, bz0, bz1, nz2, nz10, nz100, hp_gi, hp_si, ↓reduceIte, if_true, if_false, Bool.true_eq_false, Bool.false_eq_true, eq_self, reduceCtorEq, zo0, zp0_0, zp0_1, zp0_2, zp0_4, zp0_5, zp0_6, zp0_7, zp0_8, zp0_9, zp0_10, zo1, zp1_0, zp1_5, zp1_6, zp1_9, zo16, zp16_0, zp16_5, zp16_6, zp16_9, zo31, zp31_0, zp31_5, zp31_6, zp31_9, zo46, zp46_0, zp46_1, zp46_2, zo79, zp79_0, zo83, zp83_0, zp83_1, zp83_2, zo87, zp87_0, zp87_1, zo121, zp121_0, zp121_1, zp121_2, zp121_4, zp121_5, zp121_6, zp121_7, zp121_8, zp121_16, zp121_17, zp121_18, zp121_21, zp121_23, zp121_24, zp121_25, zp121_26, zp121_27, zp121_28, zp121_29, zp121_30, zp121_31, zp121_32, zp121_33, zp121_34, zp79_2, zx2, zx13, zx14, zx15, zx17, zx28, zx29, zx30, zx32, zx43, zx44, zx45, zx47, zx78, zx80, zx84, zx85, zx86, zx88, zx89, zx90, zx99, zx120, zx122, zx123, zx124, zx125, zx126, zx127, zx128, zx129, zx130, zx131, zx132, zx133, zx134, zx135, zx136, zx137, zx138, zx139, zx140, zx141, zx142, zx143, zx144, zx145, zg2, zg17, zg32, zgo3, zgo18, zgo33, zl47, zlo, zlp, zlx, zs90, zso, zsp, zsx, zt99, zto, ztp1, ztp2, ztgo, ztso, ztsp, ztsx, zc0, zi0, zc1, zi1, zc2, zi2, zc3, zi3, zc4, zi4, zc5, zi5, zin, zcl, nI_1, Bool.and_self, Bool.true_and, Bool.and_true, q_misSheet, ha, hc, g1, g0', hk, nb, nd, ne, h3, k3, P3, Q3, c1, c2, not_true_eq_false, g1']
  case pos =>
  generalize hM1 : am_u1 M (92 + 2 * t) (va_cpy (M (92 + 2 * s)) (M (92 + 2 * t)) p q m) = M1
  have hr : ∀ z, z ≠ 92 + 2 * t → M1 z = M z := fun z hz => by rw [← hM1]; simp [am_u1, hz]
  obtain ⟨M2, u1, u2, u3⟩ := copy_m1 (lp := lp) (q := q) hs ht (show p + m ≤ 24 by omega) m 0 am_F M1 (by omega) (by unfold am_F; omega)
  obtain ⟨M3, w1, w2, w3⟩ := copy_m2 (lp := lp) ht (show q + m ≤ 24 by omega) m 0 am_F M2 (by omega) (by unfold am_F; omega)
  refine ⟨nI m, lp, M1, M3, ?_, ?_, ?_⟩
  · obtain ⟨A1, A2⟩ := ar_s (lp := lp) (M := M) hs
    obtain ⟨B1, B2⟩ := ar_s (lp := lp) (M := M) ht
    rw [cls _ rfl, P1, Q1]
    simp only [c1, c2, decide_true, ↓reduceIte, if_true, if_false, Bool.true_eq_false, Bool.false_eq_true, eq_self, reduceCtorEq, cpok A1 B1 A2 B2 (show p + m ≤ 24 by omega) (show q + m ≤ 24 by omega), am_gd_t, am_lt_e, am_bd_s, bi_0, bi_bz, bz0, bz1, nz2, nz10, nz100, hp_gi, hp_si, hp_cp, zcl hp', zcl hq', zcl hm2, hM1]
  · have r137 : M1 137 = M 137 := hr 137 (by omega)
    have r138 : M1 138 = M 138 := hr 138 (by omega)
    simp (maxSteps := 1000000) (disch := omega) only [fxX10_copy, am_gd_t, am_lt_e, am_bd_s, bi_0, bi_bz, bz0, bz1, nz2, nz10, nz100, hp_gi, hp_si, ↓reduceIte, if_true, if_false, Bool.true_eq_false, Bool.false_eq_true, eq_self, reduceCtorEq, zo0, zp0_0, zp0_1, zp0_2, zp0_4, zp0_5, zp0_6, zp0_7, zp0_8, zp0_9, zp0_10, zo1, zp1_0, zp1_5, zp1_6, zp1_9, zo16, zp16_0, zp16_5, zp16_6, zp16_9, zo31, zp31_0, zp31_5, zp31_6, zp31_9, zo46, zp46_0, zp46_1, zp46_2, zo79, zp79_0, zo83, zp83_0, zp83_1, zp83_2, zo87, zp87_0, zp87_1, zo121, zp121_0, zp121_1, zp121_2, zp121_4, zp121_5, zp121_6, zp121_7, zp121_8, zp121_16, zp121_17, zp121_18, zp121_21, zp121_23, zp121_24, zp121_25, zp121_26, zp121_27, zp121_28, zp121_29, zp121_30, zp121_31, zp121_32, zp121_33, zp121_34, zp79_2, zx2, zx13, zx14, zx15, zx17, zx28, zx29, zx30, zx32, zx43, zx44, zx45, zx47, zx78, zx80, zx84, zx85, zx86, zx88, zx89, zx90, zx99, zx120, zx122, zx123, zx124, zx125, zx126, zx127, zx128, zx129, zx130, zx131, zx132, zx133, zx134, zx135, zx136, zx137, zx138, zx139, zx140, zx141, zx142, zx143, zx144, zx145, zg2, zg17, zg32, zgo3, zgo18, zgo33, zl47, zlo, zlp, zlx, zs90, zso, zsp, zsx, zt99, zto, ztp1, ztp2, ztgo, ztso, ztsp, ztsx, zc0, zi0, zc1, zi1, zc2, zi2, zc3, zi3, zc4, zi4, zc5, zi5, zin, zcl, nI_1, Bool.and_self, Bool.true_and, Bool.and_true, q_misSheet, ha, hc, r137, r138, g1, g0', hk, nb, nd, ne, h3, k3, P3, Q3, c1, c2, not_true_eq_false, g1']
    rw [show (0 : Int32) = nI 0 from rfl, u1]
    exact w1
  · refine hI.rs (fun k z1 z2 z3 => by rw [w2 k (by omega), u2 k z3, hr k (by omega)]) ?_
    have er : ∀ z, z ≠ 92 + 2 * t → z ≠ 139 → z ≠ 144 → M3 z = M z := fun z z1 z2 z3 => by rw [w2 z z2, u2 z z3, hr z z1]
    refine RS_one ht hI.2.2.2.2.1 (fun k z1 z2 z3 z4 => er k z4 (by omega) (by omega)) (fun j hj => by rw [er 137 (by omega) (by omega) (by omega)]) (fun j hj => by rw [er 138 (by omega) (by omega) (by omega)]) (fun j k hj hk => ?_) ⟨⟨n', k1, ?_, ?_, ?_⟩, ⟨?_, ?_⟩, fun k hk => ?_⟩
    · rw [w3, if_neg (by omega), u2 139 (by decide), hr 139 (by omega)]
    · rw [er _ (by omega) (by omega) (by omega)]; exact k2
    · rw [er _ (by omega) (by omega) (by omega)]; exact k3
    · rw [er _ (by omega) (by omega) (by omega)]; exact k7
    · rw [er _ (by omega) (by omega) (by omega), er _ (by omega) (by omega) (by omega)]; exact k4
    · rw [er _ (by omega) (by omega) (by omega)]; exact k5
    · rw [w2 _ (by omega), u2 _ (by omega), ← hM1]
      rw [show am_u1 M (92 + 2 * t) (va_cpy (M (92 + 2 * s)) (M (92 + 2 * t)) p q m) (92 + 2 * t) = va_cpy (M (92 + 2 * s)) (M (92 + 2 * t)) p q m by simp [am_u1]]
      rw [w3, u3, u2 139 (by decide), hr 139 (by omega)]
      by_cases hin : q ≤ k ∧ k < q + m
      · rw [pk_cpy_in hin.1 hin.2, if_pos (by omega), if_pos (by omega), h6 _ (by omega)]
        congr 1
        omega
      · rw [pk_cpy_out (by omega), if_neg (by omega)]
        exact k6 k hk
