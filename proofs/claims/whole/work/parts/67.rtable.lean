/-! ===== the reference's table ===== -/
def Wm (g : Nat → Int32) (n : Nat) (r : Nat → Int32) (i j : Nat) : Prop := ∀ a b, b < a → a < n → (a < i ∨ (a = i ∧ b < j)) → r (10 * a + b) = pvS g a b ∧ r (10 * b + a) = pvS g a b
theorem Wm_up {g r : Nat → Int32} {n i j : Nat} (hn : n ≤ 10) (hij : j < i) (hi : i < n) (h : Wm g n r i j) : Wm g n (up1 (up1 r (10 * i + j) (pvS g i j)) (10 * j + i) (pvS g i j)) i (j + 1) := by
  intro a b hab hb hor
  by_cases e : a = i ∧ b = j
  · obtain ⟨rfl, rfl⟩ := e
    rw [up1_ne (by omega), up1_eq, up1_eq]
    exact ⟨rfl, rfl⟩
  · rw [up1_ne (by omega), up1_ne (by omega), up1_ne (by omega), up1_ne (by omega)]
    exact h a b hab hb (by omega)
theorem find_in {lp n i : Nat} {M0 : Mem} {g : Nat → Int32} (hm : MO M0 g) (hn10 : n ≤ 10) (hi : i < n) (k2 : Option Nat → Int32 → am_H → Option (Unit × am_H)) : ∀ k j fuel (M : Mem), M 122 = g → j + k = i → k < fuel → Wm g n (M 125) i j → ∃ M', fxX10_findBests_b14 k2 fuel (some 121) (nI i) (nI j) (hp lp M) = k2 (some 121) (nI (i + 1)) (hp lp M') ∧ Wm g n (M' 125) i i ∧ ∀ z, z ≠ 125 → z ≠ 135 → z ≠ 136 → M' z = M z := by
  intro k
  induction k with
  | zero =>
    intro j fuel M eg hj hf hW
    obtain ⟨fuel, rfl⟩ : ∃ f, fuel = f + 1 := ⟨fuel - 1, by omega⟩
    obtain rfl : j = i := by omega
    refine ⟨M, ?_, hW, fun _ _ _ _ => rfl⟩
    simp (disch := omega) only [fxX10_findBests_b14, am_gd_t, am_lt_e, am_bd_s, bi_0, bi_bz, bz0, bz1, nz2, nz10, nz100, hp_gi, hp_si, ↓reduceIte, if_true, if_false, Bool.true_eq_false, Bool.false_eq_true, eq_self, reduceCtorEq, zle', nI_1]
  | succ k ih =>
    intro j fuel M eg hj hf hW
    obtain ⟨fuel, rfl⟩ : ∃ f, fuel = f + 1 := ⟨fuel - 1, by omega⟩
    have hip := q_isPair (lp := lp) (M := M) (show i < 10 by omega) (show j < 10 by omega)
    rw [eg, show decide (i = j) = false from decide_eq_false (by omega)] at hip
    have step : ∀ M1 : Mem, (∀ z, z ≠ 135 → z ≠ 136 → M1 z = M z) → ∃ M', fxX10_findBests_b38 k2 (fxX10_findBests_b14 k2 fuel) (some 121) (nI i) (nI j) (pvS g i j) (hp lp M1) = k2 (some 121) (nI (i + 1)) (hp lp M') ∧ Wm g n (M' 125) i i ∧ ∀ z, z ≠ 125 → z ≠ 135 → z ≠ 136 → M' z = M z := by
      intro M1 h1
      generalize hM2 : am_up (am_up M1 125 (10 * i + j) (pvS g i j)) 125 (10 * j + i) (pvS g i j) = M2
      have r2 : ∀ z, z ≠ 125 → z ≠ 135 → z ≠ 136 → M2 z = M z := fun z z1 z2 z3 => by rw [← hM2, am_up_ne z1, am_up_ne z1, h1 z z2 z3]
      have w2 : M2 125 = up1 (up1 (M 125) (10 * i + j) (pvS g i j)) (10 * j + i) (pvS g i j) := by rw [← hM2, up_row, up_row, h1 125 (by decide) (by decide)]
      obtain ⟨M', q1, q2, q3⟩ := ih (j + 1) fuel M2 (by rw [r2 122 (by decide) (by decide) (by decide)]; exact eg) (by omega) (by omega) (by rw [w2]; exact Wm_up hn10 (by omega) hi hW)
      refine ⟨M', ?_, q2, fun z z1 z2 z3 => by rw [q3 z z1 z2 z3, r2 z z1 z2 z3]⟩
      simp (disch := omega) only [fxX10_findBests_b38, am_gd_t, am_lt_e, am_bd_s, bi_0, bi_bz, bz0, bz1, nz2, nz10, nz100, hp_gi, hp_si, ↓reduceIte, if_true, if_false, Bool.true_eq_false, Bool.false_eq_true, eq_self, reduceCtorEq, zo0, zp0_0, zp0_1, zp0_2, zp0_4, zp0_5, zp0_6, zp0_7, zp0_8, zp0_9, zp0_10, zo1, zp1_0, zp1_5, zp1_6, zp1_9, zo16, zp16_0, zp16_5, zp16_6, zp16_9, zo31, zp31_0, zp31_5, zp31_6, zp31_9, zo46, zp46_0, zp46_1, zp46_2, zo79, zp79_0, zo83, zp83_0, zp83_1, zp83_2, zo87, zp87_0, zp87_1, zo121, zp121_0, zp121_1, zp121_2, zp121_4, zp121_5, zp121_6, zp121_7, zp121_8, zp121_16, zp121_17, zp121_18, zp121_21, zp121_23, zp121_24, zp121_25, zp121_26, zp121_27, zp121_28, zp121_29, zp121_30, zp121_31, zp121_32, zp121_33, zp121_34, zp79_2, zx2, zx13, zx14, zx15, zx17, zx28, zx29, zx30, zx32, zx43, zx44, zx45, zx47, zx78, zx80, zx84, zx85, zx86, zx88, zx89, zx90, zx99, zx120, zx122, zx123, zx124, zx125, zx126, zx127, zx128, zx129, zx130, zx131, zx132, zx133, zx134, zx135, zx136, zx137, zx138, zx139, zx140, zx141, zx142, zx143, zx144, zx145, zg2, zg17, zg32, zgo3, zgo18, zgo33, zl47, zlo, zlp, zlx, zs90, zso, zsp, zsx, zt99, zto, ztp1, ztp2, ztgo, ztso, ztsp, ztsx, zc0, zi0, zc1, zi1, zc2, zi2, zc3, zi3, zc4, zi4, zc5, zi5, zin, zcl, nI_1, Bool.and_self, Bool.true_and, Bool.and_true, ix10', hM2]
      exact q1
    cases hp : pairS (mg g i) (mg g j) with
    | false =>
      obtain ⟨M', q⟩ := step M (fun _ _ _ => rfl)
      refine ⟨M', ?_, q.2⟩
      rw [← q.1, show pvS g i j = -1 by unfold pvS; rw [hp]; rfl]
      simp (disch := omega) only [fxX10_findBests_b14, am_gd_t, am_lt_e, am_bd_s, bi_0, bi_bz, bz0, bz1, nz2, nz10, nz100, hp_gi, hp_si, ↓reduceIte, if_true, if_false, Bool.true_eq_false, Bool.false_eq_true, eq_self, reduceCtorEq, zo0, zp0_0, zp0_1, zp0_2, zp0_4, zp0_5, zp0_6, zp0_7, zp0_8, zp0_9, zp0_10, zo1, zp1_0, zp1_5, zp1_6, zp1_9, zo16, zp16_0, zp16_5, zp16_6, zp16_9, zo31, zp31_0, zp31_5, zp31_6, zp31_9, zo46, zp46_0, zp46_1, zp46_2, zo79, zp79_0, zo83, zp83_0, zp83_1, zp83_2, zo87, zp87_0, zp87_1, zo121, zp121_0, zp121_1, zp121_2, zp121_4, zp121_5, zp121_6, zp121_7, zp121_8, zp121_16, zp121_17, zp121_18, zp121_21, zp121_23, zp121_24, zp121_25, zp121_26, zp121_27, zp121_28, zp121_29, zp121_30, zp121_31, zp121_32, zp121_33, zp121_34, zp79_2, zx2, zx13, zx14, zx15, zx17, zx28, zx29, zx30, zx32, zx43, zx44, zx45, zx47, zx78, zx80, zx84, zx85, zx86, zx88, zx89, zx90, zx99, zx120, zx122, zx123, zx124, zx125, zx126, zx127, zx128, zx129, zx130, zx131, zx132, zx133, zx134, zx135, zx136, zx137, zx138, zx139, zx140, zx141, zx142, zx143, zx144, zx145, zg2, zg17, zg32, zgo3, zgo18, zgo33, zl47, zlo, zlp, zlx, zs90, zso, zsp, zsx, zt99, zto, ztp1, ztp2, ztgo, ztso, ztsp, ztsx, zc0, zi0, zc1, zi1, zc2, zi2, zc3, zi3, zc4, zi4, zc5, zi5, zle, hip, hp, Bool.and_false]
    | true =>
      obtain ⟨M1, p1, p2⟩ := q_valueOf (lp := lp) (M0 := M0) (M := M) (i := i) (j := j) (by rw [eg]; exact hm.1) (by rw [eg]; exact hm.2) (by omega) (by omega)
      rw [eg] at p1
      obtain ⟨M', q⟩ := step M1 p2
      refine ⟨M', ?_, q.2⟩
      rw [← q.1, show pvS g i j = vlS g (mg g i) (mg g j) by unfold pvS; rw [hp]; rfl]
      simp (disch := omega) only [fxX10_findBests_b14, am_gd_t, am_lt_e, am_bd_s, bi_0, bi_bz, bz0, bz1, nz2, nz10, nz100, hp_gi, hp_si, ↓reduceIte, if_true, if_false, Bool.true_eq_false, Bool.false_eq_true, eq_self, reduceCtorEq, zo0, zp0_0, zp0_1, zp0_2, zp0_4, zp0_5, zp0_6, zp0_7, zp0_8, zp0_9, zp0_10, zo1, zp1_0, zp1_5, zp1_6, zp1_9, zo16, zp16_0, zp16_5, zp16_6, zp16_9, zo31, zp31_0, zp31_5, zp31_6, zp31_9, zo46, zp46_0, zp46_1, zp46_2, zo79, zp79_0, zo83, zp83_0, zp83_1, zp83_2, zo87, zp87_0, zp87_1, zo121, zp121_0, zp121_1, zp121_2, zp121_4, zp121_5, zp121_6, zp121_7, zp121_8, zp121_16, zp121_17, zp121_18, zp121_21, zp121_23, zp121_24, zp121_25, zp121_26, zp121_27, zp121_28, zp121_29, zp121_30, zp121_31, zp121_32, zp121_33, zp121_34, zp79_2, zx2, zx13, zx14, zx15, zx17, zx28, zx29, zx30, zx32, zx43, zx44, zx45, zx47, zx78, zx80, zx84, zx85, zx86, zx88, zx89, zx90, zx99, zx120, zx122, zx123, zx124, zx125, zx126, zx127, zx128, zx129, zx130, zx131, zx132, zx133, zx134, zx135, zx136, zx137, zx138, zx139, zx140, zx141, zx142, zx143, zx144, zx145, zg2, zg17, zg32, zgo3, zgo18, zgo33, zl47, zlo, zlp, zlx, zs90, zso, zsp, zsx, zt99, zto, ztp1, ztp2, ztgo, ztso, ztsp, ztsx, zc0, zi0, zc1, zi1, zc2, zi2, zc3, zi3, zc4, zi4, zc5, zi5, zle, hip, hp, Bool.not_false, Bool.and_true, p1]
theorem first_go {S : Nat} (hS : S < 1024) : ∀ k i fuel, (∀ j, j < i → S.testBit j = false) → (∃ t, S.testBit t = true ∧ t < i + k) → k < fuel → i + k ≤ 10 → ∃ e, e < 10 ∧ S.testBit e = true ∧ (∀ j, S.testBit j = true → e ≤ j) ∧ ∀ h, fxX10_firstOf_b2 fuel (nI S) (nI i) h = some (nI e, h) := by
  intro k
  induction k with
  | zero =>
    intro i fuel h1 ⟨t, h2, h3⟩ hf hi
    rw [h1 t (by omega)] at h2
    cases h2
  | succ k ih =>
    intro i fuel h1 h2 hf hi
    obtain ⟨fuel, rfl⟩ : ∃ f, fuel = f + 1 := ⟨fuel - 1, by omega⟩
    cases hb : S.testBit i with
    | true =>
      refine ⟨i, by omega, hb, fun j hj => ?_, fun h => ?_⟩
      · rcases Nat.lt_or_ge j i with q | q
        · rw [h1 j q] at hj; cases hj
        · exact q
      · simp (disch := omega) only [fxX10_firstOf_b2, bit0, hb, ↓reduceIte, if_true, if_false, Bool.true_eq_false, Bool.false_eq_true, eq_self, reduceCtorEq]
    | false =>
      obtain ⟨e, e1, e2, e3, e4⟩ := ih (i + 1) fuel (fun j hj => by
        by_cases q : j = i
        · subst q; exact hb
        · exact h1 j (by omega)) (by
        obtain ⟨t, t1, t2⟩ := h2
        exact ⟨t, t1, by omega⟩) (by omega) (by omega)
      refine ⟨e, e1, e2, e3, fun h => ?_⟩
      simp (disch := omega) only [fxX10_firstOf_b2, bit0, hb, ↓reduceIte, if_true, if_false, Bool.true_eq_false, Bool.false_eq_true, eq_self, reduceCtorEq, am_lt_e, nI_1, e4]
theorem q_firstOf {S : Nat} (hS : S < 1024) (h0 : S ≠ 0) : ∃ e, e < 10 ∧ S.testBit e = true ∧ (∀ j, S.testBit j = true → e ≤ j) ∧ ∀ h, fxX10_firstOf (nI S) h = some (nI e, h) := by
  obtain ⟨t, t1, t2⟩ := tb_ex h0 hS
  obtain ⟨e, e1, e2, e3, e4⟩ := first_go hS 10 0 am_F (fun j hj => by omega) ⟨t, t2, by omega⟩ (by unfold am_F; omega) (by omega)
  refine ⟨e, e1, e2, e3, fun h => ?_⟩
  simp only [fxX10_firstOf, am_lt_e]
  exact e4 h
def Tm (p : Nat → Nat → Bool) (w : Nat → Nat → Nat) (n : Nat) (b : Nat → Int32) (k : Nat) : Prop := ∀ S, S < k → ∃ v, v ≤ 1000 * S ∧ b S = nI v ∧ ∀ e, S.testBit e = true → (∀ i, S.testBit i = true → e ≤ i) → v = mx p w (fun s => cn (b s)) e (clr S e) (n - (e + 1)) (e + 1) (cn (b (clr S e)))
theorem Tm_up {p : Nat → Nat → Bool} {w : Nat → Nat → Nat} {n : Nat} {b : Nat → Int32} {k v : Nat} (hk : k < 1024) (h : Tm p w n b k) (hv : v ≤ 1000 * k) (he : ∀ e, k.testBit e = true → (∀ i, k.testBit i = true → e ≤ i) → v = mx p w (fun s => cn (b s)) e (clr k e) (n - (e + 1)) (e + 1) (cn (b (clr k e)))) : Tm p w n (up1 b k (nI v)) (k + 1) := by
  intro S hS
  by_cases e : S = k
  · subst e
    refine ⟨v, hv, up1_eq _ _ _, fun e h1 h2 => ?_⟩
    have h3 := clr_lt hk h1
    rw [up1_ne (by omega), mx_congr (B := fun s => cn (b s)) (fun s hs => by rw [up1_ne (by omega)])]
    exact he e h1 h2
  · obtain ⟨u, h1, h2, h3⟩ := h S (by omega)
    refine ⟨u, h1, by rw [up1_ne e]; exact h2, fun e q1 q2 => ?_⟩
    have q3 := clr_lt (S := S) (by omega) q1
    rw [up1_ne (by omega), mx_congr (B := fun s => cn (b s)) (fun s hs => by rw [up1_ne (by omega)])]
    exact h3 e q1 q2
theorem Tm_v {p : Nat → Nat → Bool} {w : Nat → Nat → Nat} {n : Nat} {b : Nat → Int32} {k S : Nat} (h : Tm p w n b k) (hS : S < k) (hS2 : S < 1024) : b S = nI (cn (b S)) ∧ cn (b S) ≤ 1000 * S := by
  obtain ⟨u, h1, h2, -⟩ := h S hS
  rw [h2, cn_nI (by omega)]
  exact ⟨rfl, h1⟩
theorem nlt0 {n : Nat} (h : n < 2147483648) : (nI n < 0) = False := eq_false (nI_pos h)
theorem q_bestFrom {lp n S : Nat} {M : Mem} {g : Nat → Int32} (hn : n ≤ 10) (hS : S < 2 ^ n) (e1 : M 122 1 = nI n) (hV : ∀ a b, a < n → b < n → a ≠ b → M 125 (10 * a + b) = pvS g a b) (hT : Tm (pG g) (wG g) n (M 126) S) : ∃ v, fxX10_bestFrom (some 121) (nI S) (hp lp M) = some (nI v, hp lp M) ∧ v ≤ 1000 * S ∧ ∀ e, S.testBit e = true → (∀ i, S.testBit i = true → e ≤ i) → v = mx (pG g) (wG g) (fun s => cn (M 126 s)) e (clr S e) (n - (e + 1)) (e + 1) (cn (M 126 (clr S e))) := by
  have hS10 := n10 hn hS
  by_cases h0 : S = 0
  · subst h0
    refine ⟨0, ?_, by omega, fun e he => by simp at he⟩
    simp only [fxX10_bestFrom, show (nI 0 = 0) = True from by decide, ↓reduceIte, if_true, if_false, Bool.true_eq_false, Bool.false_eq_true, eq_self, reduceCtorEq]
    rfl
  obtain ⟨e, he10, hee, hmin, hfo⟩ := q_firstOf hS10 h0
  have hen : e < n := tb_lt hS hee
  have hlt := clr_lt hS10 hee
  generalize hr : clr S e = r at *
  have L : ∀ k i fuel acc, i + k = n → e < i → k < fuel → acc ≤ 2000000 → fxX10_bestFrom_b32 fuel (some 121) (nI e) (nI r) (nI acc) (nI i) (hp lp M) = some (nI (mx (pG g) (wG g) (fun s => cn (M 126 s)) e r k i acc), hp lp M) := by
    intro k
    induction k with
    | zero =>
      intro i fuel acc hi hei hf ha
      obtain ⟨fuel, rfl⟩ : ∃ f, fuel = f + 1 := ⟨fuel - 1, by omega⟩
      obtain rfl : i = n := by omega
      simp (disch := omega) only [fxX10_bestFrom_b32, am_gd_t, am_lt_e, am_bd_s, bi_0, bi_bz, bz0, bz1, nz2, nz10, nz100, hp_gi, hp_si, ↓reduceIte, if_true, if_false, Bool.true_eq_false, Bool.false_eq_true, eq_self, reduceCtorEq, zo0, zp0_0, zp0_1, zp0_2, zp0_4, zp0_5, zp0_6, zp0_7, zp0_8, zp0_9, zp0_10, zo1, zp1_0, zp1_5, zp1_6, zp1_9, zo16, zp16_0, zp16_5, zp16_6, zp16_9, zo31, zp31_0, zp31_5, zp31_6, zp31_9, zo46, zp46_0, zp46_1, zp46_2, zo79, zp79_0, zo83, zp83_0, zp83_1, zp83_2, zo87, zp87_0, zp87_1, zo121, zp121_0, zp121_1, zp121_2, zp121_4, zp121_5, zp121_6, zp121_7, zp121_8, zp121_16, zp121_17, zp121_18, zp121_21, zp121_23, zp121_24, zp121_25, zp121_26, zp121_27, zp121_28, zp121_29, zp121_30, zp121_31, zp121_32, zp121_33, zp121_34, zp79_2, zx2, zx13, zx14, zx15, zx17, zx28, zx29, zx30, zx32, zx43, zx44, zx45, zx47, zx78, zx80, zx84, zx85, zx86, zx88, zx89, zx90, zx99, zx120, zx122, zx123, zx124, zx125, zx126, zx127, zx128, zx129, zx130, zx131, zx132, zx133, zx134, zx135, zx136, zx137, zx138, zx139, zx140, zx141, zx142, zx143, zx144, zx145, zg2, zg17, zg32, zgo3, zgo18, zgo33, zl47, zlo, zlp, zlx, zs90, zso, zsp, zsx, zt99, zto, ztp1, ztp2, ztgo, ztso, ztsp, ztsx, zc0, zi0, zc1, zi1, zc2, zi2, zc3, zi3, zc4, zi4, zc5, zi5, e1, zle', mx]
    | succ k ih =>
      intro i fuel acc hi hei hf ha
      obtain ⟨fuel, rfl⟩ : ∃ f, fuel = f + 1 := ⟨fuel - 1, by omega⟩
      have ev := hV e i hen (by omega) (by omega)
      unfold mx
      cases hb : r.testBit i with
      | false =>
        have := ih (i + 1) fuel acc (by omega) (by omega) (by omega) ha
        simp (disch := omega) only [fxX10_bestFrom_b32, fxX10_bestFrom_b112, am_gd_t, am_lt_e, am_bd_s, bi_0, bi_bz, bz0, bz1, nz2, nz10, nz100, hp_gi, hp_si, ↓reduceIte, if_true, if_false, Bool.true_eq_false, Bool.false_eq_true, eq_self, reduceCtorEq, zo0, zp0_0, zp0_1, zp0_2, zp0_4, zp0_5, zp0_6, zp0_7, zp0_8, zp0_9, zp0_10, zo1, zp1_0, zp1_5, zp1_6, zp1_9, zo16, zp16_0, zp16_5, zp16_6, zp16_9, zo31, zp31_0, zp31_5, zp31_6, zp31_9, zo46, zp46_0, zp46_1, zp46_2, zo79, zp79_0, zo83, zp83_0, zp83_1, zp83_2, zo87, zp87_0, zp87_1, zo121, zp121_0, zp121_1, zp121_2, zp121_4, zp121_5, zp121_6, zp121_7, zp121_8, zp121_16, zp121_17, zp121_18, zp121_21, zp121_23, zp121_24, zp121_25, zp121_26, zp121_27, zp121_28, zp121_29, zp121_30, zp121_31, zp121_32, zp121_33, zp121_34, zp79_2, zx2, zx13, zx14, zx15, zx17, zx28, zx29, zx30, zx32, zx43, zx44, zx45, zx47, zx78, zx80, zx84, zx85, zx86, zx88, zx89, zx90, zx99, zx120, zx122, zx123, zx124, zx125, zx126, zx127, zx128, zx129, zx130, zx131, zx132, zx133, zx134, zx135, zx136, zx137, zx138, zx139, zx140, zx141, zx142, zx143, zx144, zx145, zg2, zg17, zg32, zgo3, zgo18, zgo33, zl47, zlo, zlp, zlx, zs90, zso, zsp, zsx, zt99, zto, ztp1, ztp2, ztgo, ztso, ztsp, ztsx, zc0, zi0, zc1, zi1, zc2, zi2, zc3, zi3, zc4, zi4, zc5, zi5, zin, zcl, nI_1, Bool.and_self, Bool.true_and, Bool.and_true, e1, zle, ix10', bit1, hb, this, false_and]
      | true =>
        rcases pv_cases g e i with ⟨c1, c2⟩ | ⟨c1, c2, c3⟩
        · have := ih (i + 1) fuel acc (by omega) (by omega) (by omega) ha
          rw [c2] at ev
          simp (disch := omega) only [fxX10_bestFrom_b32, fxX10_bestFrom_b112, am_gd_t, am_lt_e, am_bd_s, bi_0, bi_bz, bz0, bz1, nz2, nz10, nz100, hp_gi, hp_si, ↓reduceIte, if_true, if_false, Bool.true_eq_false, Bool.false_eq_true, eq_self, reduceCtorEq, zo0, zp0_0, zp0_1, zp0_2, zp0_4, zp0_5, zp0_6, zp0_7, zp0_8, zp0_9, zp0_10, zo1, zp1_0, zp1_5, zp1_6, zp1_9, zo16, zp16_0, zp16_5, zp16_6, zp16_9, zo31, zp31_0, zp31_5, zp31_6, zp31_9, zo46, zp46_0, zp46_1, zp46_2, zo79, zp79_0, zo83, zp83_0, zp83_1, zp83_2, zo87, zp87_0, zp87_1, zo121, zp121_0, zp121_1, zp121_2, zp121_4, zp121_5, zp121_6, zp121_7, zp121_8, zp121_16, zp121_17, zp121_18, zp121_21, zp121_23, zp121_24, zp121_25, zp121_26, zp121_27, zp121_28, zp121_29, zp121_30, zp121_31, zp121_32, zp121_33, zp121_34, zp79_2, zx2, zx13, zx14, zx15, zx17, zx28, zx29, zx30, zx32, zx43, zx44, zx45, zx47, zx78, zx80, zx84, zx85, zx86, zx88, zx89, zx90, zx99, zx120, zx122, zx123, zx124, zx125, zx126, zx127, zx128, zx129, zx130, zx131, zx132, zx133, zx134, zx135, zx136, zx137, zx138, zx139, zx140, zx141, zx142, zx143, zx144, zx145, zg2, zg17, zg32, zgo3, zgo18, zgo33, zl47, zlo, zlp, zlx, zs90, zso, zsp, zsx, zt99, zto, ztp1, ztp2, ztgo, ztso, ztsp, ztsx, zc0, zi0, zc1, zi1, zc2, zi2, zc3, zi3, zc4, zi4, zc5, zi5, zin, zcl, nI_1, Bool.and_self, Bool.true_and, Bool.and_true, e1, zle, ix10', bit1, hb, ev, show ((-1 : Int32) < 0) = True from by decide, this, c1, and_false]
        · have hle := clr_le r i
          obtain ⟨t1, t2⟩ := Tm_v (S := clr r i) hT (by omega) (by omega)
          have hI := ih (i + 1) fuel (max acc (wG g e i + cn (M 126 (clr r i)))) (by omega) (by omega) (by omega) (by omega)
          rw [c2] at ev
          generalize hc : cn (M 126 (clr r i)) = c at *
          rw [if_pos ⟨rfl, c1⟩]
          by_cases hm : wG g e i + c ≤ acc
          · rw [Nat.max_eq_left hm] at hI ⊢
            simp (disch := omega) only [fxX10_bestFrom_b32, fxX10_bestFrom_b112, fxX10_bestFrom_b110, am_gd_t, am_lt_e, am_bd_s, bi_0, bi_bz, bz0, bz1, nz2, nz10, nz100, hp_gi, hp_si, ↓reduceIte, if_true, if_false, Bool.true_eq_false, Bool.false_eq_true, eq_self, reduceCtorEq, zo0, zp0_0, zp0_1, zp0_2, zp0_4, zp0_5, zp0_6, zp0_7, zp0_8, zp0_9, zp0_10, zo1, zp1_0, zp1_5, zp1_6, zp1_9, zo16, zp16_0, zp16_5, zp16_6, zp16_9, zo31, zp31_0, zp31_5, zp31_6, zp31_9, zo46, zp46_0, zp46_1, zp46_2, zo79, zp79_0, zo83, zp83_0, zp83_1, zp83_2, zo87, zp87_0, zp87_1, zo121, zp121_0, zp121_1, zp121_2, zp121_4, zp121_5, zp121_6, zp121_7, zp121_8, zp121_16, zp121_17, zp121_18, zp121_21, zp121_23, zp121_24, zp121_25, zp121_26, zp121_27, zp121_28, zp121_29, zp121_30, zp121_31, zp121_32, zp121_33, zp121_34, zp79_2, zx2, zx13, zx14, zx15, zx17, zx28, zx29, zx30, zx32, zx43, zx44, zx45, zx47, zx78, zx80, zx84, zx85, zx86, zx88, zx89, zx90, zx99, zx120, zx122, zx123, zx124, zx125, zx126, zx127, zx128, zx129, zx130, zx131, zx132, zx133, zx134, zx135, zx136, zx137, zx138, zx139, zx140, zx141, zx142, zx143, zx144, zx145, zg2, zg17, zg32, zgo3, zgo18, zgo33, zl47, zlo, zlp, zlx, zs90, zso, zsp, zsx, zt99, zto, ztp1, ztp2, ztgo, ztso, ztsp, ztsx, zc0, zi0, zc1, zi1, zc2, zi2, zc3, zi3, zc4, zi4, zc5, zi5, zin, zcl, nI_1, Bool.and_self, Bool.true_and, Bool.and_true, e1, zle, ix10', bit1, hb, ev, nlt0, q_clr, t1, nI_add, zle', hI]
          · rw [Nat.max_eq_right (by omega)] at hI ⊢
            simp (disch := omega) only [fxX10_bestFrom_b32, fxX10_bestFrom_b112, fxX10_bestFrom_b110, am_gd_t, am_lt_e, am_bd_s, bi_0, bi_bz, bz0, bz1, nz2, nz10, nz100, hp_gi, hp_si, ↓reduceIte, if_true, if_false, Bool.true_eq_false, Bool.false_eq_true, eq_self, reduceCtorEq, zo0, zp0_0, zp0_1, zp0_2, zp0_4, zp0_5, zp0_6, zp0_7, zp0_8, zp0_9, zp0_10, zo1, zp1_0, zp1_5, zp1_6, zp1_9, zo16, zp16_0, zp16_5, zp16_6, zp16_9, zo31, zp31_0, zp31_5, zp31_6, zp31_9, zo46, zp46_0, zp46_1, zp46_2, zo79, zp79_0, zo83, zp83_0, zp83_1, zp83_2, zo87, zp87_0, zp87_1, zo121, zp121_0, zp121_1, zp121_2, zp121_4, zp121_5, zp121_6, zp121_7, zp121_8, zp121_16, zp121_17, zp121_18, zp121_21, zp121_23, zp121_24, zp121_25, zp121_26, zp121_27, zp121_28, zp121_29, zp121_30, zp121_31, zp121_32, zp121_33, zp121_34, zp79_2, zx2, zx13, zx14, zx15, zx17, zx28, zx29, zx30, zx32, zx43, zx44, zx45, zx47, zx78, zx80, zx84, zx85, zx86, zx88, zx89, zx90, zx99, zx120, zx122, zx123, zx124, zx125, zx126, zx127, zx128, zx129, zx130, zx131, zx132, zx133, zx134, zx135, zx136, zx137, zx138, zx139, zx140, zx141, zx142, zx143, zx144, zx145, zg2, zg17, zg32, zgo3, zgo18, zgo33, zl47, zlo, zlp, zlx, zs90, zso, zsp, zsx, zt99, zto, ztp1, ztp2, ztgo, ztso, ztsp, ztsx, zc0, zi0, zc1, zi1, zc2, zi2, zc3, zi3, zc4, zi4, zc5, zi5, zin, zcl, nI_1, Bool.and_self, Bool.true_and, Bool.and_true, e1, zle, ix10', bit1, hb, ev, nlt0, q_clr, t1, nI_add, hI]
  obtain ⟨t1, t2⟩ := Tm_v (S := r) hT (by omega) (by omega)
  have hmain := L (n - (e + 1)) (e + 1) am_F (cn (M 126 r)) (by omega) (by omega) (by unfold am_F; omega) (by omega)
  refine ⟨mx (pG g) (wG g) (fun s => cn (M 126 s)) e r (n - (e + 1)) (e + 1) (cn (M 126 r)), ?_, ?_, fun e' h1 h2 => ?_⟩
  · rw [← hmain, ← t1]
    have hS0 : (nI S = 0) = False := eq_false (nI_ne0 (by omega) (by omega))
    simp (disch := omega) only [fxX10_bestFrom, am_gd_t, am_lt_e, am_bd_s, bi_0, bi_bz, bz0, bz1, nz2, nz10, nz100, hp_gi, hp_si, ↓reduceIte, if_true, if_false, Bool.true_eq_false, Bool.false_eq_true, eq_self, reduceCtorEq, zo0, zp0_0, zp0_1, zp0_2, zp0_4, zp0_5, zp0_6, zp0_7, zp0_8, zp0_9, zp0_10, zo1, zp1_0, zp1_5, zp1_6, zp1_9, zo16, zp16_0, zp16_5, zp16_6, zp16_9, zo31, zp31_0, zp31_5, zp31_6, zp31_9, zo46, zp46_0, zp46_1, zp46_2, zo79, zp79_0, zo83, zp83_0, zp83_1, zp83_2, zo87, zp87_0, zp87_1, zo121, zp121_0, zp121_1, zp121_2, zp121_4, zp121_5, zp121_6, zp121_7, zp121_8, zp121_16, zp121_17, zp121_18, zp121_21, zp121_23, zp121_24, zp121_25, zp121_26, zp121_27, zp121_28, zp121_29, zp121_30, zp121_31, zp121_32, zp121_33, zp121_34, zp79_2, zx2, zx13, zx14, zx15, zx17, zx28, zx29, zx30, zx32, zx43, zx44, zx45, zx47, zx78, zx80, zx84, zx85, zx86, zx88, zx89, zx90, zx99, zx120, zx122, zx123, zx124, zx125, zx126, zx127, zx128, zx129, zx130, zx131, zx132, zx133, zx134, zx135, zx136, zx137, zx138, zx139, zx140, zx141, zx142, zx143, zx144, zx145, zg2, zg17, zg32, zgo3, zgo18, zgo33, zl47, zlo, zlp, zlx, zs90, zso, zsp, zsx, zt99, zto, ztp1, ztp2, ztgo, ztso, ztsp, ztsx, zc0, zi0, zc1, zi1, zc2, zi2, zc3, zi3, zc4, zi4, zc5, zi5, zin, zcl, nI_1, Bool.and_self, Bool.true_and, Bool.and_true, hS0, hfo, q_clr, hr]
  · refine mx_le (fun y hy _ => ?_) _ _ _ ?_
    · have := clr_lt (S := r) (by omega) hy
      have := (Tm_v (S := clr r y) hT (by omega) (by omega)).2
      have := wG_le g e y
      show wG g e y + cn (M 126 (clr r y)) ≤ _
      omega
    · omega
  · have : e' = e := Nat.le_antisymm (h2 e hee) (hmin e' h1)
    subst this
    rw [hr]
theorem q_findBests {lp : Nat} {M0 M : Mem} (hm : MO M0 (M 122)) : ∃ M', fxX10_findBests (some 121) (hp lp M) = some ((), hp lp M') ∧ (∀ a b, a < cn (M 122 1) → b < cn (M 122 1) → a ≠ b → M' 125 (10 * a + b) = pvS (M 122) a b) ∧ Tm (pG (M 122)) (wG (M 122)) (cn (M 122 1)) (M' 126) (2 ^ cn (M 122 1)) ∧ ∀ z, z ≠ 125 → z ≠ 126 → z ≠ 135 → z ≠ 136 → M' z = M z := by
  obtain ⟨hn, en⟩ := hm.1.n
  generalize hg : M 122 = g at *
  generalize hnn : cn (g 1) = n at *
  have hp10 : 2 ^ n ≤ 1024 := (Nat.pow_le_pow_right (by decide) hn : 2 ^ n ≤ 2 ^ 10)
  have L2 : ∀ k S fuel (M : Mem), M 122 = g → S + k = 2 ^ n → k < fuel → (∀ a b, a < n → b < n → a ≠ b → M 125 (10 * a + b) = pvS g a b) → Tm (pG g) (wG g) n (M 126) S → ∃ M', fxX10_findBests_b77 fuel (some 121) (nI S) (hp lp M) = some ((), hp lp M') ∧ Tm (pG g) (wG g) n (M' 126) (2 ^ n) ∧ ∀ z, z ≠ 126 → M' z = M z := by
    intro k
    induction k with
    | zero =>
      intro S fuel M eg hS hf hV hT
      obtain ⟨fuel, rfl⟩ : ∃ f, fuel = f + 1 := ⟨fuel - 1, by omega⟩
      obtain rfl : S = 2 ^ n := by omega
      have e1 : M 122 1 = nI n := by rw [eg]; exact en
      refine ⟨M, ?_, hT, fun _ _ => rfl⟩
      simp (disch := omega) only [fxX10_findBests_b77, am_gd_t, am_lt_e, am_bd_s, bi_0, bi_bz, bz0, bz1, nz2, nz10, nz100, hp_gi, hp_si, ↓reduceIte, if_true, if_false, Bool.true_eq_false, Bool.false_eq_true, eq_self, reduceCtorEq, zo0, zp0_0, zp0_1, zp0_2, zp0_4, zp0_5, zp0_6, zp0_7, zp0_8, zp0_9, zp0_10, zo1, zp1_0, zp1_5, zp1_6, zp1_9, zo16, zp16_0, zp16_5, zp16_6, zp16_9, zo31, zp31_0, zp31_5, zp31_6, zp31_9, zo46, zp46_0, zp46_1, zp46_2, zo79, zp79_0, zo83, zp83_0, zp83_1, zp83_2, zo87, zp87_0, zp87_1, zo121, zp121_0, zp121_1, zp121_2, zp121_4, zp121_5, zp121_6, zp121_7, zp121_8, zp121_16, zp121_17, zp121_18, zp121_21, zp121_23, zp121_24, zp121_25, zp121_26, zp121_27, zp121_28, zp121_29, zp121_30, zp121_31, zp121_32, zp121_33, zp121_34, zp79_2, zx2, zx13, zx14, zx15, zx17, zx28, zx29, zx30, zx32, zx43, zx44, zx45, zx47, zx78, zx80, zx84, zx85, zx86, zx88, zx89, zx90, zx99, zx120, zx122, zx123, zx124, zx125, zx126, zx127, zx128, zx129, zx130, zx131, zx132, zx133, zx134, zx135, zx136, zx137, zx138, zx139, zx140, zx141, zx142, zx143, zx144, zx145, zg2, zg17, zg32, zgo3, zgo18, zgo33, zl47, zlo, zlp, zlx, zs90, zso, zsp, zsx, zt99, zto, ztp1, ztp2, ztgo, ztso, ztsp, ztsx, zc0, zi0, zc1, zi1, zc2, zi2, zc3, zi3, zc4, zi4, zc5, zi5, e1, q_shl, zle']
    | succ k ih =>
      intro S fuel M eg hS hf hV hT
      obtain ⟨fuel, rfl⟩ : ∃ f, fuel = f + 1 := ⟨fuel - 1, by omega⟩
      have e1 : M 122 1 = nI n := by rw [eg]; exact en
      obtain ⟨v, p1, p2, p3⟩ := q_bestFrom (lp := lp) hn (show S < 2 ^ n by omega) e1 hV hT
      generalize hM1 : am_up M 126 S (nI v) = M1
      have r1 : ∀ z, z ≠ 126 → M1 z = M z := fun z hz => by rw [← hM1, am_up_ne hz]
      obtain ⟨M', q1, q2, q3⟩ := ih (S + 1) fuel M1 (by rw [r1 122 (by decide)]; exact eg) (by omega) (by omega) (by rw [r1 125 (by decide)]; exact hV) (by rw [← hM1, up_row]; exact Tm_up (by omega) hT p2 p3)
      refine ⟨M', ?_, q2, fun z hz => by rw [q3 z hz, r1 z hz]⟩
      simp (disch := omega) only [fxX10_findBests_b77, am_gd_t, am_lt_e, am_bd_s, bi_0, bi_bz, bz0, bz1, nz2, nz10, nz100, hp_gi, hp_si, ↓reduceIte, if_true, if_false, Bool.true_eq_false, Bool.false_eq_true, eq_self, reduceCtorEq, zo0, zp0_0, zp0_1, zp0_2, zp0_4, zp0_5, zp0_6, zp0_7, zp0_8, zp0_9, zp0_10, zo1, zp1_0, zp1_5, zp1_6, zp1_9, zo16, zp16_0, zp16_5, zp16_6, zp16_9, zo31, zp31_0, zp31_5, zp31_6, zp31_9, zo46, zp46_0, zp46_1, zp46_2, zo79, zp79_0, zo83, zp83_0, zp83_1, zp83_2, zo87, zp87_0, zp87_1, zo121, zp121_0, zp121_1, zp121_2, zp121_4, zp121_5, zp121_6, zp121_7, zp121_8, zp121_16, zp121_17, zp121_18, zp121_21, zp121_23, zp121_24, zp121_25, zp121_26, zp121_27, zp121_28, zp121_29, zp121_30, zp121_31, zp121_32, zp121_33, zp121_34, zp79_2, zx2, zx13, zx14, zx15, zx17, zx28, zx29, zx30, zx32, zx43, zx44, zx45, zx47, zx78, zx80, zx84, zx85, zx86, zx88, zx89, zx90, zx99, zx120, zx122, zx123, zx124, zx125, zx126, zx127, zx128, zx129, zx130, zx131, zx132, zx133, zx134, zx135, zx136, zx137, zx138, zx139, zx140, zx141, zx142, zx143, zx144, zx145, zg2, zg17, zg32, zgo3, zgo18, zgo33, zl47, zlo, zlp, zlx, zs90, zso, zsp, zsx, zt99, zto, ztp1, ztp2, ztgo, ztso, ztsp, ztsx, zc0, zi0, zc1, zi1, zc2, zi2, zc3, zi3, zc4, zi4, zc5, zi5, zin, zcl, nI_1, Bool.and_self, Bool.true_and, Bool.and_true, e1, q_shl, zle, p1, hM1]
      exact q1
  have L1 : ∀ k i fuel (M : Mem), M 122 = g → i + k = n → k < fuel → Wm g n (M 125) i 0 → ∃ M', fxX10_findBests_b2 fuel (some 121) (nI i) (hp lp M) = some ((), hp lp M') ∧ (∀ a b, a < n → b < n → a ≠ b → M' 125 (10 * a + b) = pvS g a b) ∧ Tm (pG g) (wG g) n (M' 126) (2 ^ n) ∧ ∀ z, z ≠ 125 → z ≠ 126 → z ≠ 135 → z ≠ 136 → M' z = M z := by
    intro k
    induction k with
    | zero =>
      intro i fuel M eg hi hf hW
      obtain ⟨fuel, rfl⟩ : ∃ f, fuel = f + 1 := ⟨fuel - 1, by omega⟩
      obtain rfl : i = n := by omega
      have e1 : M 122 1 = nI i := by rw [eg]; exact en
      have hV : ∀ a b, a < i → b < i → a ≠ b → M 125 (10 * a + b) = pvS g a b := fun a b ha hb hab => by
        rcases Nat.lt_or_gt_of_ne hab with q | q
        · rw [pvS_comm]; exact (hW b a q hb (Or.inl hb)).2
        · exact (hW a b q ha (Or.inl ha)).1
      obtain ⟨M', q1, q2, q3⟩ := L2 (2 ^ i) 0 am_F M eg (by omega) (by unfold am_F; omega) hV (fun S hS => by omega)
      refine ⟨M', ?_, by rw [q3 125 (by decide)]; exact hV, q2, fun z z1 z2 z3 z4 => q3 z z2⟩
      simp (disch := omega) only [fxX10_findBests_b2, am_gd_t, am_lt_e, am_bd_s, bi_0, bi_bz, bz0, bz1, nz2, nz10, nz100, hp_gi, hp_si, ↓reduceIte, if_true, if_false, Bool.true_eq_false, Bool.false_eq_true, eq_self, reduceCtorEq, zo0, zp0_0, zp0_1, zp0_2, zp0_4, zp0_5, zp0_6, zp0_7, zp0_8, zp0_9, zp0_10, zo1, zp1_0, zp1_5, zp1_6, zp1_9, zo16, zp16_0, zp16_5, zp16_6, zp16_9, zo31, zp31_0, zp31_5, zp31_6, zp31_9, zo46, zp46_0, zp46_1, zp46_2, zo79, zp79_0, zo83, zp83_0, zp83_1, zp83_2, zo87, zp87_0, zp87_1, zo121, zp121_0, zp121_1, zp121_2, zp121_4, zp121_5, zp121_6, zp121_7, zp121_8, zp121_16, zp121_17, zp121_18, zp121_21, zp121_23, zp121_24, zp121_25, zp121_26, zp121_27, zp121_28, zp121_29, zp121_30, zp121_31, zp121_32, zp121_33, zp121_34, zp79_2, zx2, zx13, zx14, zx15, zx17, zx28, zx29, zx30, zx32, zx43, zx44, zx45, zx47, zx78, zx80, zx84, zx85, zx86, zx88, zx89, zx90, zx99, zx120, zx122, zx123, zx124, zx125, zx126, zx127, zx128, zx129, zx130, zx131, zx132, zx133, zx134, zx135, zx136, zx137, zx138, zx139, zx140, zx141, zx142, zx143, zx144, zx145, zg2, zg17, zg32, zgo3, zgo18, zgo33, zl47, zlo, zlp, zlx, zs90, zso, zsp, zsx, zt99, zto, ztp1, ztp2, ztgo, ztso, ztsp, ztsx, zc0, zi0, zc1, zi1, zc2, zi2, zc3, zi3, zc4, zi4, zc5, zi5, e1, zle']
      exact q1
    | succ k ih =>
      intro i fuel M eg hi hf hW
      obtain ⟨fuel, rfl⟩ : ∃ f, fuel = f + 1 := ⟨fuel - 1, by omega⟩
      have e1 : M 122 1 = nI n := by rw [eg]; exact en
      obtain ⟨M1, p1, p2, p3⟩ := find_in (lp := lp) hm hn (show i < n by omega) (fxX10_findBests_b2 fuel) i 0 am_F M eg (by omega) (by unfold am_F; omega) hW
      obtain ⟨M', q1, q2, q3, q4⟩ := ih (i + 1) fuel M1 (by rw [p3 122 (by decide) (by decide) (by decide)]; exact eg) (by omega) (by omega) (fun a b hab ha hor => p2 a b hab ha (by omega))
      refine ⟨M', ?_, q2, q3, fun z z1 z2 z3 z4 => by rw [q4 z z1 z2 z3 z4, p3 z z1 z3 z4]⟩
      simp (disch := omega) only [fxX10_findBests_b2, am_gd_t, am_lt_e, am_bd_s, bi_0, bi_bz, bz0, bz1, nz2, nz10, nz100, hp_gi, hp_si, ↓reduceIte, if_true, if_false, Bool.true_eq_false, Bool.false_eq_true, eq_self, reduceCtorEq, zo0, zp0_0, zp0_1, zp0_2, zp0_4, zp0_5, zp0_6, zp0_7, zp0_8, zp0_9, zp0_10, zo1, zp1_0, zp1_5, zp1_6, zp1_9, zo16, zp16_0, zp16_5, zp16_6, zp16_9, zo31, zp31_0, zp31_5, zp31_6, zp31_9, zo46, zp46_0, zp46_1, zp46_2, zo79, zp79_0, zo83, zp83_0, zp83_1, zp83_2, zo87, zp87_0, zp87_1, zo121, zp121_0, zp121_1, zp121_2, zp121_4, zp121_5, zp121_6, zp121_7, zp121_8, zp121_16, zp121_17, zp121_18, zp121_21, zp121_23, zp121_24, zp121_25, zp121_26, zp121_27, zp121_28, zp121_29, zp121_30, zp121_31, zp121_32, zp121_33, zp121_34, zp79_2, zx2, zx13, zx14, zx15, zx17, zx28, zx29, zx30, zx32, zx43, zx44, zx45, zx47, zx78, zx80, zx84, zx85, zx86, zx88, zx89, zx90, zx99, zx120, zx122, zx123, zx124, zx125, zx126, zx127, zx128, zx129, zx130, zx131, zx132, zx133, zx134, zx135, zx136, zx137, zx138, zx139, zx140, zx141, zx142, zx143, zx144, zx145, zg2, zg17, zg32, zgo3, zgo18, zgo33, zl47, zlo, zlp, zlx, zs90, zso, zsp, zsx, zt99, zto, ztp1, ztp2, ztgo, ztso, ztsp, ztsx, zc0, zi0, zc1, zi1, zc2, zi2, zc3, zi3, zc4, zi4, zc5, zi5, e1, zle]
      rw [show (0 : Int32) = nI 0 from rfl, p1]
      exact q1
  obtain ⟨M', q1, q2⟩ := L1 n 0 am_F M hg (by omega) (by unfold am_F; omega) (fun a b hab ha hor => by omega)
  refine ⟨M', ?_, q2⟩
  simp only [fxX10_findBests, am_gd_t, am_lt_e, am_bd_s, bi_0, bi_bz, bz0, bz1, nz2, nz10, nz100, hp_gi, hp_si]
  exact q1
theorem Good_L {n : Nat} (hn : n ≤ 10) {g b : Nat → Int32} (hT : Tm (pG g) (wG g) n b (2 ^ n)) : Good n (pG g) (wG g) (fun s => cn (b s)) := by
  have hpos : 0 < 2 ^ n := Nat.two_pow_pos n
  refine Good_of hn (le := fun a b => a ≤ b) (pG_comm g) (wG_comm g) (fun a b h1 h2 => Nat.le_antisymm h1 h2) ?_ (fun S hS hS0 => ?_)
  · have := (Tm_v (S := 0) hT hpos (by decide)).2
    show cn (b 0) = 0
    omega
  · have hS10 := n10 hn hS
    obtain ⟨e, he10, hee, hmin, -⟩ := q_firstOf hS10 hS0
    have hen : e < n := tb_lt hS hee
    obtain ⟨v, hvl, ebs, hv⟩ := hT S hS
    have hv := hv e hee hmin
    have ev : cn (b S) = v := by rw [ebs, cn_nI (by omega)]
    have hry : ∀ y, S.testBit y = true → e ≠ y → (clr S e).testBit y = true := fun y hy hne => by rw [clr_tb hS10 he10, hy]; simp [hne]
    refine ⟨e, hee, hmin, ?_, fun y hy hne hp => ?_, ?_⟩
    · show cn (b (clr S e)) ≤ cn (b S)
      rw [ev, hv]; exact mx_ge0 _ _ _
    · show wG g e y + cn (b (clr (clr S e) y)) ≤ cn (b S)
      rw [ev, hv]
      have h1 := hmin y hy
      have h2 := tb_lt hS hy
      exact mx_ge (B := fun s => cn (b s)) _ _ _ y (by omega) (by omega) (hry y hy hne) hp
    · show cn (b S) = cn (b (clr S e)) ∨ _
      rcases mx_att (p := pG g) (w := wG g) (B := fun s => cn (b s)) (e := e) (r := clr S e) (n - (e + 1)) (e + 1) (cn (b (clr S e))) with q | ⟨y, y1, y2, y3, y4, q⟩
      · exact Or.inl (by rw [ev, hv]; exact q)
      · rw [clr_tb hS10 he10] at y3
        simp at y3
        refine Or.inr ⟨y, y3.1, y3.2, y4, ?_⟩
        show cn (b S) = wG g e y + cn (b (clr (clr S e) y))
        rw [ev, hv]; exact q
/-- both tables say the same -/
theorem tabs_eq {n : Nat} (hn : n ≤ 10) {g b b' : Nat → Int32} (h : Tb (pG g) (wG g) b (2 ^ n)) (h' : Tm (pG g) (wG g) n b' (2 ^ n)) {S : Nat} (hS : S < 2 ^ n) : b S = b' S := by
  have hS10 := n10 hn hS
  have := Good_eq hn (Good_H hn h) (Good_L hn h') hS
  rw [(Tb_v h hS hS10).1, (Tm_v h' hS hS10).1]
  exact congrArg nI this
