/-! ===== the key; the class's whole reading ===== -/
def kc (w i : Nat) : Nat := ([112, 97, 105, 114, 119, 101, 97, 114, 102, 105, 110, 101] : List Nat).getD (4 * w + i) 0
def wK (b : Nat → Nat) (st w : Nat) : Nat → Nat → Bool
  | 0, _ => true
  | k + 1, i => (b (st + i) == kc w i) && wK b st w k (i + 1)
def kwT (b : Nat → Nat) (T : Tk) : Option Nat := if T.1 = 1 ∧ T.2.2 - T.2.1 = 4 then (if wK b T.2.1 0 4 0 = true then some 0 else if wK b T.2.1 1 4 0 = true then some 1 else if wK b T.2.1 2 4 0 = true then some 2 else none) else none
theorem kw_lt {b : Nat → Nat} {T : Tk} {K : Nat} (h : kwT b T = some K) : K < 3 ∧ T.1 = 1 := by
  unfold kwT at h
  split at h
  · next q =>
    refine ⟨?_, q.1⟩
    repeat' split at h
    all_goals first | (cases h; decide) | (cases h)
  · cases h
/-- what comes of a text: the place of its fault, or key, codes, how many numbers and names -/
noncomputable def rdP (b : Nat → Nat) (n : Nat) : Nat ⊕ (Nat × List Int32 × Nat) := match kwT b (nx b n (0, 0, 0)) with
  | none => .inl (nx b n (0, 0, 0)).2.1
  | some K => if ((dlp b n K 100).1 0 0 0 (nx b n (nx b n (0, 0, 0)), [], 0)).2 = true ∧ ((dlp b n K 100).1 0 0 0 (nx b n (nx b n (0, 0, 0)), [], 0)).1.1.1 = 0 then .inr (K, ((dlp b n K 100).1 0 0 0 (nx b n (nx b n (0, 0, 0)), [], 0)).1.2) else .inl ((dlp b n K 100).1 0 0 0 (nx b n (nx b n (0, 0, 0)), [], 0)).1.1.2.1
theorem len4 {w : Nat} (hw : w < 3) (h : am_H) : fxJ0_length_8abf5 (2 + w) h = some (4, h) := by
  rcases (show w = 0 ∨ w = 1 ∨ w = 2 by omega) with rfl | rfl | rfl
  · simp only [fxJ0_length_8abf5, fxJ0_coder_7d493, am_gd_t, am_lt_e, am_bd_s, bi_0, bi_bz, bz0, bz1, nz2, nz10, nz100, hp_gi, hp_si, ↓reduceIte, if_true, if_false, Bool.true_eq_false, Bool.false_eq_true, eq_self, reduceCtorEq, one0, show (Int32.ofNat (am_kb9 (10 + (2 + 0))).length >>> ((0 : Int32) &&& 31)) = 4 from by decide]
  · simp only [fxJ0_length_8abf5, fxJ0_coder_7d493, am_gd_t, am_lt_e, am_bd_s, bi_0, bi_bz, bz0, bz1, nz2, nz10, nz100, hp_gi, hp_si, ↓reduceIte, if_true, if_false, Bool.true_eq_false, Bool.false_eq_true, eq_self, reduceCtorEq, one0, show (Int32.ofNat (am_kb9 (10 + (2 + 1))).length >>> ((0 : Int32) &&& 31)) = 4 from by decide]
  · simp only [fxJ0_length_8abf5, fxJ0_coder_7d493, am_gd_t, am_lt_e, am_bd_s, bi_0, bi_bz, bz0, bz1, nz2, nz10, nz100, hp_gi, hp_si, ↓reduceIte, if_true, if_false, Bool.true_eq_false, Bool.false_eq_true, eq_self, reduceCtorEq, one0, show (Int32.ofNat (am_kb9 (10 + (2 + 2))).length >>> ((0 : Int32) &&& 31)) = 4 from by decide]
theorem chr4 {w i : Nat} (hw : w < 3) (hi : i < 4) (h : am_H) : fxJ0_charAt_5068e (2 + w) (nI i) h = some (nI (kc w i), h) := by
  rcases (show w = 0 ∨ w = 1 ∨ w = 2 by omega) with rfl | rfl | rfl <;> rcases (show i = 0 ∨ i = 1 ∨ i = 2 ∨ i = 3 by omega) with rfl | rfl | rfl | rfl <;> rfl
theorem kc_lt (w i : Nat) : kc w i < 256 := by
  unfold kc
  rw [List.getD_eq_getElem?_getD]
  generalize 4 * w + i = j
  match j with
  | 0 | 1 | 2 | 3 | 4 | 5 | 6 | 7 | 8 | 9 | 10 | 11 => decide
  | j + 12 => simp
theorem q_wordIs {lp n st en w q : Nat} {b : Nat → Nat} {N : Mem} {f : Int32} (hw : w < 3) (hB : TpC N b n) (hq : q ≤ 3) (h1 : st ≤ en) (h2 : en ≤ n) : fxX8_wordIs (some 79) (2 + w) (hp lp (TM N f (nI q) (nI st) (nI en))) = some (bi (decide (q = 1 ∧ en - st = 4) && wK b st w 4 0), hp lp (TM N f (nI q) (nI st) (nI en))) := by
  obtain ⟨hn, e1, e2⟩ := hB
  have c1 : (nI q = (1 : Int32)) = (q = 1) := propext (nI_eq (b := 1) (by omega) (by decide))
  have c2 : (nI en - nI st = (4 : Int32)) = (en - st = 4) := by
    rw [pk_sub h1]; exact propext (nI_eq (b := 4) (by omega) (by decide))
  by_cases hq1 : q = 1
  · by_cases h4 : en - st = 4
    · rw [decide_eq_true ⟨hq1, h4⟩, Bool.true_and]
      have L : ∀ k i fuel, i + k = 4 → k < fuel → fxX8_wordIs_b28 fuel (some 79) (2 + w) (nI i) (hp lp (TM N f (nI q) (nI st) (nI en))) = some (bi (wK b st w k i), hp lp (TM N f (nI q) (nI st) (nI en))) := by
        intro k
        induction k with
        | zero =>
          intro i fuel hi hf
          obtain ⟨fuel, rfl⟩ : ∃ f, fuel = f + 1 := ⟨fuel - 1, by omega⟩
          obtain rfl : i = 4 := by omega
          simp only [fxX8_wordIs_b28, len4 hw, show ((4 : Int32) ≤ nI 4) = True from by decide, am_gd_t, am_lt_e, am_bd_s, bi_0, bi_bz, bz0, bz1, nz2, nz10, nz100, hp_gi, hp_si, ↓reduceIte, if_true, if_false, Bool.true_eq_false, Bool.false_eq_true, eq_self, reduceCtorEq, wK]
          rfl
        | succ k ih =>
          intro i fuel hi hf
          obtain ⟨fuel, rfl⟩ : ∃ f, fuel = f + 1 := ⟨fuel - 1, by omega⟩
          have hle : ((4 : Int32) ≤ nI i) = False := zle (n := 4) (by omega) (by decide)
          obtain ⟨d1, d2⟩ := e2 (st + i) (by omega)
          have hkc := kc_lt w i
          have c3 : (nI (b (st + i)) = nI (kc w i)) = (b (st + i) = kc w i) := propext (nI_eq (by omega) (by omega))
          unfold wK
          by_cases hc : b (st + i) = kc w i
          · rw [show (b (st + i) == kc w i) = true from beq_iff_eq.mpr hc, Bool.true_and, ← ih (i + 1) fuel (by omega) (by omega)]
            have c3t := c3.trans (eq_true hc)
            simp (disch := omega) only [fxX8_wordIs_b28, len4, chr4, hle, am_gd_t, am_lt_e, am_bd_s, bi_0, bi_bz, bz0, bz1, nz2, nz10, nz100, hp_gi, hp_si, ↓reduceIte, if_true, if_false, Bool.true_eq_false, Bool.false_eq_true, eq_self, reduceCtorEq, zo0, zp0_0, zp0_1, zp0_2, zp0_4, zp0_5, zp0_6, zp0_7, zp0_8, zp0_9, zp0_10, zo1, zp1_0, zp1_5, zp1_6, zp1_9, zo16, zp16_0, zp16_5, zp16_6, zp16_9, zo31, zp31_0, zp31_5, zp31_6, zp31_9, zo46, zp46_0, zp46_1, zp46_2, zo79, zp79_0, zo83, zp83_0, zp83_1, zp83_2, zo87, zp87_0, zp87_1, zo121, zp121_0, zp121_1, zp121_2, zp121_4, zp121_5, zp121_6, zp121_7, zp121_8, zp121_16, zp121_17, zp121_18, zp121_21, zp121_23, zp121_24, zp121_25, zp121_26, zp121_27, zp121_28, zp121_29, zp121_30, zp121_31, zp121_32, zp121_33, zp121_34, zp79_2, zx2, zx13, zx14, zx15, zx17, zx28, zx29, zx30, zx32, zx43, zx44, zx45, zx47, zx78, zx80, zx84, zx85, zx86, zx88, zx89, zx90, zx99, zx120, zx122, zx123, zx124, zx125, zx126, zx127, zx128, zx129, zx130, zx131, zx132, zx133, zx134, zx135, zx136, zx137, zx138, zx139, zx140, zx141, zx142, zx143, zx144, zx145, zg2, zg17, zg32, zgo3, zgo18, zgo33, zl47, zlo, zlp, zlx, zs90, zso, zsp, zsx, zt99, zto, ztp1, ztp2, ztgo, ztso, ztsp, ztsx, zc0, zi0, zc1, zi1, zc2, zi2, zc3, zi3, zc4, zi4, zc5, zi5, zin, zcl, nI_1, Bool.and_self, Bool.true_and, Bool.and_true, tm_5, tm_80, nI_add, d1, c3t]
          · rw [show (b (st + i) == kc w i) = false from beq_eq_false_iff_ne.mpr hc, Bool.false_and]
            have c3t := c3.trans (eq_false hc)
            simp (disch := omega) only [fxX8_wordIs_b28, len4, chr4, hle, am_gd_t, am_lt_e, am_bd_s, bi_0, bi_bz, bz0, bz1, nz2, nz10, nz100, hp_gi, hp_si, ↓reduceIte, if_true, if_false, Bool.true_eq_false, Bool.false_eq_true, eq_self, reduceCtorEq, zo0, zp0_0, zp0_1, zp0_2, zp0_4, zp0_5, zp0_6, zp0_7, zp0_8, zp0_9, zp0_10, zo1, zp1_0, zp1_5, zp1_6, zp1_9, zo16, zp16_0, zp16_5, zp16_6, zp16_9, zo31, zp31_0, zp31_5, zp31_6, zp31_9, zo46, zp46_0, zp46_1, zp46_2, zo79, zp79_0, zo83, zp83_0, zp83_1, zp83_2, zo87, zp87_0, zp87_1, zo121, zp121_0, zp121_1, zp121_2, zp121_4, zp121_5, zp121_6, zp121_7, zp121_8, zp121_16, zp121_17, zp121_18, zp121_21, zp121_23, zp121_24, zp121_25, zp121_26, zp121_27, zp121_28, zp121_29, zp121_30, zp121_31, zp121_32, zp121_33, zp121_34, zp79_2, zx2, zx13, zx14, zx15, zx17, zx28, zx29, zx30, zx32, zx43, zx44, zx45, zx47, zx78, zx80, zx84, zx85, zx86, zx88, zx89, zx90, zx99, zx120, zx122, zx123, zx124, zx125, zx126, zx127, zx128, zx129, zx130, zx131, zx132, zx133, zx134, zx135, zx136, zx137, zx138, zx139, zx140, zx141, zx142, zx143, zx144, zx145, zg2, zg17, zg32, zgo3, zgo18, zgo33, zl47, zlo, zlp, zlx, zs90, zso, zsp, zsx, zt99, zto, ztp1, ztp2, ztgo, ztso, ztsp, ztsx, zc0, zi0, zc1, zi1, zc2, zi2, zc3, zi3, zc4, zi4, zc5, zi5, zin, zcl, nI_1, Bool.and_self, Bool.true_and, Bool.and_true, tm_5, tm_80, nI_add, d1, c3t]
            rfl
      have := L 4 0 am_F (by omega) (by unfold am_F; omega)
      have c1t := c1.trans (eq_true hq1)
      have c2t := c2.trans (eq_true h4)
      simp only [fxX8_wordIs, len4 hw, am_gd_t, am_lt_e, am_bd_s, bi_0, bi_bz, bz0, bz1, nz2, nz10, nz100, hp_gi, hp_si, ↓reduceIte, if_true, if_false, Bool.true_eq_false, Bool.false_eq_true, eq_self, reduceCtorEq, zo0, zp0_0, zp0_1, zp0_2, zp0_4, zp0_5, zp0_6, zp0_7, zp0_8, zp0_9, zp0_10, zo1, zp1_0, zp1_5, zp1_6, zp1_9, zo16, zp16_0, zp16_5, zp16_6, zp16_9, zo31, zp31_0, zp31_5, zp31_6, zp31_9, zo46, zp46_0, zp46_1, zp46_2, zo79, zp79_0, zo83, zp83_0, zp83_1, zp83_2, zo87, zp87_0, zp87_1, zo121, zp121_0, zp121_1, zp121_2, zp121_4, zp121_5, zp121_6, zp121_7, zp121_8, zp121_16, zp121_17, zp121_18, zp121_21, zp121_23, zp121_24, zp121_25, zp121_26, zp121_27, zp121_28, zp121_29, zp121_30, zp121_31, zp121_32, zp121_33, zp121_34, zp79_2, zx2, zx13, zx14, zx15, zx17, zx28, zx29, zx30, zx32, zx43, zx44, zx45, zx47, zx78, zx80, zx84, zx85, zx86, zx88, zx89, zx90, zx99, zx120, zx122, zx123, zx124, zx125, zx126, zx127, zx128, zx129, zx130, zx131, zx132, zx133, zx134, zx135, zx136, zx137, zx138, zx139, zx140, zx141, zx142, zx143, zx144, zx145, zg2, zg17, zg32, zgo3, zgo18, zgo33, zl47, zlo, zlp, zlx, zs90, zso, zsp, zsx, zt99, zto, ztp1, ztp2, ztgo, ztso, ztsp, ztsx, zc0, zi0, zc1, zi1, zc2, zi2, zc3, zi3, zc4, zi4, zc5, zi5, tm_4, tm_5, tm_6, c1t, c2t]
      exact this
    · rw [decide_eq_false (fun x => h4 x.2), Bool.false_and]
      have c1t := c1.trans (eq_true hq1)
      have c2t := c2.trans (eq_false h4)
      simp only [fxX8_wordIs, len4 hw, am_gd_t, am_lt_e, am_bd_s, bi_0, bi_bz, bz0, bz1, nz2, nz10, nz100, hp_gi, hp_si, ↓reduceIte, if_true, if_false, Bool.true_eq_false, Bool.false_eq_true, eq_self, reduceCtorEq, zo0, zp0_0, zp0_1, zp0_2, zp0_4, zp0_5, zp0_6, zp0_7, zp0_8, zp0_9, zp0_10, zo1, zp1_0, zp1_5, zp1_6, zp1_9, zo16, zp16_0, zp16_5, zp16_6, zp16_9, zo31, zp31_0, zp31_5, zp31_6, zp31_9, zo46, zp46_0, zp46_1, zp46_2, zo79, zp79_0, zo83, zp83_0, zp83_1, zp83_2, zo87, zp87_0, zp87_1, zo121, zp121_0, zp121_1, zp121_2, zp121_4, zp121_5, zp121_6, zp121_7, zp121_8, zp121_16, zp121_17, zp121_18, zp121_21, zp121_23, zp121_24, zp121_25, zp121_26, zp121_27, zp121_28, zp121_29, zp121_30, zp121_31, zp121_32, zp121_33, zp121_34, zp79_2, zx2, zx13, zx14, zx15, zx17, zx28, zx29, zx30, zx32, zx43, zx44, zx45, zx47, zx78, zx80, zx84, zx85, zx86, zx88, zx89, zx90, zx99, zx120, zx122, zx123, zx124, zx125, zx126, zx127, zx128, zx129, zx130, zx131, zx132, zx133, zx134, zx135, zx136, zx137, zx138, zx139, zx140, zx141, zx142, zx143, zx144, zx145, zg2, zg17, zg32, zgo3, zgo18, zgo33, zl47, zlo, zlp, zlx, zs90, zso, zsp, zsx, zt99, zto, ztp1, ztp2, ztgo, ztso, ztsp, ztsx, zc0, zi0, zc1, zi1, zc2, zi2, zc3, zi3, zc4, zi4, zc5, zi5, tm_4, tm_5, tm_6, c1t, c2t]
      rfl
  · rw [decide_eq_false (fun x => hq1 x.1), Bool.false_and]
    have c1t := c1.trans (eq_false hq1)
    simp only [fxX8_wordIs, am_gd_t, am_lt_e, am_bd_s, bi_0, bi_bz, bz0, bz1, nz2, nz10, nz100, hp_gi, hp_si, ↓reduceIte, if_true, if_false, Bool.true_eq_false, Bool.false_eq_true, eq_self, reduceCtorEq, zo0, zp0_0, zp0_1, zp0_2, zp0_4, zp0_5, zp0_6, zp0_7, zp0_8, zp0_9, zp0_10, zo1, zp1_0, zp1_5, zp1_6, zp1_9, zo16, zp16_0, zp16_5, zp16_6, zp16_9, zo31, zp31_0, zp31_5, zp31_6, zp31_9, zo46, zp46_0, zp46_1, zp46_2, zo79, zp79_0, zo83, zp83_0, zp83_1, zp83_2, zo87, zp87_0, zp87_1, zo121, zp121_0, zp121_1, zp121_2, zp121_4, zp121_5, zp121_6, zp121_7, zp121_8, zp121_16, zp121_17, zp121_18, zp121_21, zp121_23, zp121_24, zp121_25, zp121_26, zp121_27, zp121_28, zp121_29, zp121_30, zp121_31, zp121_32, zp121_33, zp121_34, zp79_2, zx2, zx13, zx14, zx15, zx17, zx28, zx29, zx30, zx32, zx43, zx44, zx45, zx47, zx78, zx80, zx84, zx85, zx86, zx88, zx89, zx90, zx99, zx120, zx122, zx123, zx124, zx125, zx126, zx127, zx128, zx129, zx130, zx131, zx132, zx133, zx134, zx135, zx136, zx137, zx138, zx139, zx140, zx141, zx142, zx143, zx144, zx145, zg2, zg17, zg32, zgo3, zgo18, zgo33, zl47, zlo, zlp, zlx, zs90, zso, zsp, zsx, zt99, zto, ztp1, ztp2, ztgo, ztso, ztsp, ztsx, zc0, zi0, zc1, zi1, zc2, zi2, zc3, zi3, zc4, zi4, zc5, zi5, tm_4, c1t]
    rfl
theorem TM_of (M : Mem) (f s st e : Int32) : am_up (am_up (am_up (am_up M 79 3 f) 79 4 s) 79 5 st) 79 6 e = TM M f s st e := by
  funext a c
  unfold TM
  by_cases ha : a = 79
  · subst ha
    rw [if_pos rfl, up_row, up_row, up_row, up_row]
    unfold up1 tr
    by_cases h3 : c = 3
    · subst h3; rfl
    · by_cases h4 : c = 4
      · subst h4; rfl
      · by_cases h5 : c = 5
        · subst h5; rfl
        · by_cases h6 : c = 6
          · subst h6; rfl
          · simp [h3, h4, h5, h6]
  · rw [if_neg ha, am_up_ne ha, am_up_ne ha, am_up_ne ha, am_up_ne ha]
theorem TM_TM (M : Mem) (f s st e f' s' st' e' : Int32) : TM (TM M f s st e) f' s' st' e' = TM M f' s' st' e' := by
  funext a c
  unfold TM
  by_cases ha : a = 79
  · subst ha
    rw [if_pos rfl, if_pos rfl]
    unfold tr
    by_cases h3 : c = 3
    · subst h3; rfl
    · by_cases h4 : c = 4
      · subst h4; rfl
      · by_cases h5 : c = 5
        · subst h5; rfl
        · by_cases h6 : c = 6
          · subst h6; rfl
          · simp [h3, h4, h5, h6]
  · rw [if_neg ha, if_neg ha, if_neg ha]
/-- with a fault, a whole expression is passed over -/
theorem lp_fault {lp : Nat} {N : Mem} {g s st e op no : Int32} (hg : ¬ g = -1) : ∀ f, (∀ l, l ≤ 5 → 7 - l ≤ f → (fxX8_lp f).1 (some 79) (nI l) op no (hp lp (TM N g s st e)) = some ((), hp lp (TM N g s st e))) ∧ (1 ≤ f → (fxX8_lp f).2 (some 79) op no (hp lp (TM N g s st e)) = some ((), hp lp (TM N g s st e))) := by
  intro f
  induction f with
  | zero => exact ⟨fun l h1 h2 => by omega, fun h => by omega⟩
  | succ f ih =>
    obtain ⟨iL, iP⟩ := ih
    refine ⟨fun l h1 h2 => ?_, fun _ => ?_⟩
    · show fxX8_levelF (fxX8_lp f).1 (fxX8_lp f).2 (some 79) (nI l) op no (hp lp (TM N g s st e)) = _
      by_cases hl : l < 5
      · have c : (nI l < (5 : Int32)) = True := zlt (n := 5) hl (by decide)
        have h := iL (l + 1) (by omega) (by omega)
        simp only [fxX8_levelF, c, am_gd_t, am_lt_e, am_bd_s, bi_0, bi_bz, bz0, bz1, nz2, nz10, nz100, hp_gi, hp_si, ↓reduceIte, if_true, if_false, Bool.true_eq_false, Bool.false_eq_true, eq_self, reduceCtorEq, zo0, zp0_0, zp0_1, zp0_2, zp0_4, zp0_5, zp0_6, zp0_7, zp0_8, zp0_9, zp0_10, zo1, zp1_0, zp1_5, zp1_6, zp1_9, zo16, zp16_0, zp16_5, zp16_6, zp16_9, zo31, zp31_0, zp31_5, zp31_6, zp31_9, zo46, zp46_0, zp46_1, zp46_2, zo79, zp79_0, zo83, zp83_0, zp83_1, zp83_2, zo87, zp87_0, zp87_1, zo121, zp121_0, zp121_1, zp121_2, zp121_4, zp121_5, zp121_6, zp121_7, zp121_8, zp121_16, zp121_17, zp121_18, zp121_21, zp121_23, zp121_24, zp121_25, zp121_26, zp121_27, zp121_28, zp121_29, zp121_30, zp121_31, zp121_32, zp121_33, zp121_34, zp79_2, zx2, zx13, zx14, zx15, zx17, zx28, zx29, zx30, zx32, zx43, zx44, zx45, zx47, zx78, zx80, zx84, zx85, zx86, zx88, zx89, zx90, zx99, zx120, zx122, zx123, zx124, zx125, zx126, zx127, zx128, zx129, zx130, zx131, zx132, zx133, zx134, zx135, zx136, zx137, zx138, zx139, zx140, zx141, zx142, zx143, zx144, zx145, zg2, zg17, zg32, zgo3, zgo18, zgo33, zl47, zlo, zlp, zlx, zs90, zso, zsp, zsx, zt99, zto, ztp1, ztp2, ztgo, ztso, ztsp, ztsx, zc0, zi0, zc1, zi1, zc2, zi2, zc3, zi3, zc4, zi4, zc5, zi5, nI_1, h]
        exact b24_f hg 3999
      · obtain rfl : l = 5 := by omega
        have h := iP (by omega)
        simp only [fxX8_levelF, show (nI 5 < (5 : Int32)) = False from by decide, am_gd_t, am_lt_e, am_bd_s, bi_0, bi_bz, bz0, bz1, nz2, nz10, nz100, hp_gi, hp_si, ↓reduceIte, if_true, if_false, Bool.true_eq_false, Bool.false_eq_true, eq_self, reduceCtorEq, zo0, zp0_0, zp0_1, zp0_2, zp0_4, zp0_5, zp0_6, zp0_7, zp0_8, zp0_9, zp0_10, zo1, zp1_0, zp1_5, zp1_6, zp1_9, zo16, zp16_0, zp16_5, zp16_6, zp16_9, zo31, zp31_0, zp31_5, zp31_6, zp31_9, zo46, zp46_0, zp46_1, zp46_2, zo79, zp79_0, zo83, zp83_0, zp83_1, zp83_2, zo87, zp87_0, zp87_1, zo121, zp121_0, zp121_1, zp121_2, zp121_4, zp121_5, zp121_6, zp121_7, zp121_8, zp121_16, zp121_17, zp121_18, zp121_21, zp121_23, zp121_24, zp121_25, zp121_26, zp121_27, zp121_28, zp121_29, zp121_30, zp121_31, zp121_32, zp121_33, zp121_34, zp79_2, zx2, zx13, zx14, zx15, zx17, zx28, zx29, zx30, zx32, zx43, zx44, zx45, zx47, zx78, zx80, zx84, zx85, zx86, zx88, zx89, zx90, zx99, zx120, zx122, zx123, zx124, zx125, zx126, zx127, zx128, zx129, zx130, zx131, zx132, zx133, zx134, zx135, zx136, zx137, zx138, zx139, zx140, zx141, zx142, zx143, zx144, zx145, zg2, zg17, zg32, zgo3, zgo18, zgo33, zl47, zlo, zlp, zlx, zs90, zso, zsp, zsx, zt99, zto, ztp1, ztp2, ztgo, ztso, ztsp, ztsx, zc0, zi0, zc1, zi1, zc2, zi2, zc3, zi3, zc4, zi4, zc5, zi5, h]
    · show fxX8_pieceF (fxX8_lp f).1 (fxX8_lp f).2 (some 79) op no (hp lp (TM N g s st e)) = _
      simp only [fxX8_pieceF, am_gd_t, am_lt_e, am_bd_s, bi_0, bi_bz, bz0, bz1, nz2, nz10, nz100, hp_gi, hp_si, ↓reduceIte, if_true, if_false, Bool.true_eq_false, Bool.false_eq_true, eq_self, reduceCtorEq, zo0, zp0_0, zp0_1, zp0_2, zp0_4, zp0_5, zp0_6, zp0_7, zp0_8, zp0_9, zp0_10, zo1, zp1_0, zp1_5, zp1_6, zp1_9, zo16, zp16_0, zp16_5, zp16_6, zp16_9, zo31, zp31_0, zp31_5, zp31_6, zp31_9, zo46, zp46_0, zp46_1, zp46_2, zo79, zp79_0, zo83, zp83_0, zp83_1, zp83_2, zo87, zp87_0, zp87_1, zo121, zp121_0, zp121_1, zp121_2, zp121_4, zp121_5, zp121_6, zp121_7, zp121_8, zp121_16, zp121_17, zp121_18, zp121_21, zp121_23, zp121_24, zp121_25, zp121_26, zp121_27, zp121_28, zp121_29, zp121_30, zp121_31, zp121_32, zp121_33, zp121_34, zp79_2, zx2, zx13, zx14, zx15, zx17, zx28, zx29, zx30, zx32, zx43, zx44, zx45, zx47, zx78, zx80, zx84, zx85, zx86, zx88, zx89, zx90, zx99, zx120, zx122, zx123, zx124, zx125, zx126, zx127, zx128, zx129, zx130, zx131, zx132, zx133, zx134, zx135, zx136, zx137, zx138, zx139, zx140, zx141, zx142, zx143, zx144, zx145, zg2, zg17, zg32, zgo3, zgo18, zgo33, zl47, zlo, zlp, zlx, zs90, zso, zsp, zsx, zt99, zto, ztp1, ztp2, ztgo, ztso, ztsp, ztsx, zc0, zi0, zc1, zi1, zc2, zi2, zc3, zi3, zc4, zi4, zc5, zi5, tm_3, hg]
/-- how the reading ends, behind a fault -/
theorem read_fault {lp : Nat} {N : Mem} {g s st e : Int32} (hg : ¬ g = -1) : am_bd (fxX8_next (some 79) (hp lp (TM N g s st e))) (fun _ h4 => am_gd (am_ob h4 (some 79) 8) (am_bd (fxX8_level (some 79) (0 : Int32) (0 : Int32) (0 : Int32) h4) (fun _ h5 => am_gd (am_ob h5 (some 79) 8) (if (am_gi h5 (some 79) 4) = 0 then (fxX8_read_b35 (some 79) h5) else (am_gd (am_ob h5 (some 79) 8) (am_bd (fxX8_refuse (some 79) h5) (fun _ h6 => fxX8_read_b35 (some 79) h6))))))) = some (g, hp lp (TM N g s st e)) := by
  have h1 := (lp_fault (lp := lp) (N := N) (s := s) (st := st) (e := e) (op := 0) (no := 0) hg 100).1 0 (by omega) (by omega)
  have h1 : fxX8_level (some 79) (0 : Int32) (0 : Int32) (0 : Int32) (hp lp (TM N g s st e)) = some ((), hp lp (TM N g s st e)) := h1
  simp only [q_next' hg, am_gd_t, am_lt_e, am_bd_s, bi_0, bi_bz, bz0, bz1, nz2, nz10, nz100, hp_gi, hp_si, ↓reduceIte, if_true, if_false, Bool.true_eq_false, Bool.false_eq_true, eq_self, reduceCtorEq, zo0, zp0_0, zp0_1, zp0_2, zp0_4, zp0_5, zp0_6, zp0_7, zp0_8, zp0_9, zp0_10, zo1, zp1_0, zp1_5, zp1_6, zp1_9, zo16, zp16_0, zp16_5, zp16_6, zp16_9, zo31, zp31_0, zp31_5, zp31_6, zp31_9, zo46, zp46_0, zp46_1, zp46_2, zo79, zp79_0, zo83, zp83_0, zp83_1, zp83_2, zo87, zp87_0, zp87_1, zo121, zp121_0, zp121_1, zp121_2, zp121_4, zp121_5, zp121_6, zp121_7, zp121_8, zp121_16, zp121_17, zp121_18, zp121_21, zp121_23, zp121_24, zp121_25, zp121_26, zp121_27, zp121_28, zp121_29, zp121_30, zp121_31, zp121_32, zp121_33, zp121_34, zp79_2, zx2, zx13, zx14, zx15, zx17, zx28, zx29, zx30, zx32, zx43, zx44, zx45, zx47, zx78, zx80, zx84, zx85, zx86, zx88, zx89, zx90, zx99, zx120, zx122, zx123, zx124, zx125, zx126, zx127, zx128, zx129, zx130, zx131, zx132, zx133, zx134, zx135, zx136, zx137, zx138, zx139, zx140, zx141, zx142, zx143, zx144, zx145, zg2, zg17, zg32, zgo3, zgo18, zgo33, zl47, zlo, zlp, zlx, zs90, zso, zsp, zsx, zt99, zto, ztp1, ztp2, ztgo, ztso, ztsp, ztsx, zc0, zi0, zc1, zi1, zc2, zi2, zc3, zi3, zc4, zi4, zc5, zi5, h1, q_refuse' hg, fxX8_read_b35, tm_3, ite_self]
theorem q_read {lp t n : Nat} {b : Nat → Nat} {M : Mem} (ht : t < 15) (hB : TpC M b n) : (∀ p, rdP b n = .inl p → ∃ N f s st e, fxX8_read (some 79) (some (48 + 2 * t)) (hp lp M) = some (nI p, hp (48 + 2 * t) (TM N f s st e)) ∧ (∀ z, z ≠ 48 + 2 * t → z ≠ 49 + 2 * t → N z = M z) ∧ p ≤ 96) ∧ (∀ K c o, rdP b n = .inr (K, c, o) → ∃ N f s st e, fxX8_read (some 79) (some (48 + 2 * t)) (hp lp M) = some (-1, hp (48 + 2 * t) (TM N f s st e)) ∧ (∀ z, z ≠ 48 + 2 * t → z ≠ 49 + 2 * t → N z = M z) ∧ K < 3 ∧ c.length ≤ 96 ∧ N (48 + 2 * t) 0 = nI K ∧ N (48 + 2 * t) 1 = nI o ∧ N (48 + 2 * t) 3 = nI c.length ∧ CRr (N (49 + 2 * t)) c) := by
  have hn := hB.1
  obtain ⟨k1, k2⟩ := q_next (lp := 48 + 2 * t) (st := 0) (s := 0) (e := 0) hB (by omega) (by omega)
  obtain ⟨hT1, -⟩ := nx_ok (b := b) (n := n) (T := (0, 0, 0)) (show 0 ≤ n by omega)
  generalize hT : nx b n (0, 0, 0) = T1 at *
  have est : stT b n 0 = T1.2.1 := by rw [← hT]; rfl
  have een : enT b n (stT b n 0) = T1.2.2 := by rw [← hT]; rfl
  -- behind the first word or sign
  have hnext : ∃ g q, fxX8_next (some 79) (hp (48 + 2 * t) (TM M (-1) 0 0 0)) = some ((), hp (48 + 2 * t) (TM M g (nI q) (nI T1.2.1) (nI T1.2.2))) ∧ q ≤ 3 ∧ ((T1.1 = 4 ∧ g = nI T1.2.1 ∧ q ≠ 1) ∨ (T1.1 ≠ 4 ∧ g = -1 ∧ q = T1.1)) := by
    by_cases hb : bdT b n 0 0
    · refine ⟨_, _, by rw [← est, ← een]; exact k1 hb, so_le _ _ _, Or.inl ⟨by rw [← hT]; exact nx_b hb, rfl, ?_⟩⟩
      unfold bdT at hb
      omega
    · refine ⟨_, _, by rw [← est, ← een]; exact k2 hb, so_le _ _ _, Or.inr ?_⟩
      have hs : T1.1 = so b n (stT b n 0) := by rw [← hT]; exact nx_s hb
      have := so_le b n (stT b n 0)
      exact ⟨by omega, rfl, hs.symm⟩
  obtain ⟨g, q, hnx, hq3, hor⟩ := hnext
  have hst : T1.2.1 ≤ n := by have := hT1.1; have := hT1.2.1; omega
  have hw := fun (w : Nat) (hw : w < 3) => q_wordIs (lp := 48 + 2 * t) (n := n) (b := b) (N := M) (f := g) hw hB hq3 hT1.1 hT1.2.1
  have w0 := hw 0 (by decide)
  have w1 := hw 1 (by decide)
  have w2 := hw 2 (by decide)
  have head : fxX8_read (some 79) (some (48 + 2 * t)) (hp lp M) = am_bd (fxX8_key (some 79) (hp (48 + 2 * t) (TM M g (nI q) (nI T1.2.1) (nI T1.2.2)))) (fun _ h3 => am_gd (am_ob h3 (some 79) 8) (am_bd (fxX8_next (some 79) h3) (fun _ h4 => am_gd (am_ob h4 (some 79) 8) (am_bd (fxX8_level (some 79) (0 : Int32) (0 : Int32) (0 : Int32) h4) (fun _ h5 => am_gd (am_ob h5 (some 79) 8) (if (am_gi h5 (some 79) 4) = 0 then (fxX8_read_b35 (some 79) h5) else (am_gd (am_ob h5 (some 79) 8) (am_bd (fxX8_refuse (some 79) h5) (fun _ h6 => fxX8_read_b35 (some 79) h6))))))))) := by
    simp only [fxX8_read, fxX8_begin, am_gd_t, am_lt_e, am_bd_s, bi_0, bi_bz, bz0, bz1, nz2, nz10, nz100, hp_gi, hp_si, ↓reduceIte, if_true, if_false, Bool.true_eq_false, Bool.false_eq_true, eq_self, reduceCtorEq, zo0, zp0_0, zp0_1, zp0_2, zp0_4, zp0_5, zp0_6, zp0_7, zp0_8, zp0_9, zp0_10, zo1, zp1_0, zp1_5, zp1_6, zp1_9, zo16, zp16_0, zp16_5, zp16_6, zp16_9, zo31, zp31_0, zp31_5, zp31_6, zp31_9, zo46, zp46_0, zp46_1, zp46_2, zo79, zp79_0, zo83, zp83_0, zp83_1, zp83_2, zo87, zp87_0, zp87_1, zo121, zp121_0, zp121_1, zp121_2, zp121_4, zp121_5, zp121_6, zp121_7, zp121_8, zp121_16, zp121_17, zp121_18, zp121_21, zp121_23, zp121_24, zp121_25, zp121_26, zp121_27, zp121_28, zp121_29, zp121_30, zp121_31, zp121_32, zp121_33, zp121_34, zp79_2, zx2, zx13, zx14, zx15, zx17, zx28, zx29, zx30, zx32, zx43, zx44, zx45, zx47, zx78, zx80, zx84, zx85, zx86, zx88, zx89, zx90, zx99, zx120, zx122, zx123, zx124, zx125, zx126, zx127, zx128, zx129, zx130, zx131, zx132, zx133, zx134, zx135, zx136, zx137, zx138, zx139, zx140, zx141, zx142, zx143, zx144, zx145, zg2, zg17, zg32, zgo3, zgo18, zgo33, zl47, zlo, zlp, zlx, zs90, zso, zsp, zsx, zt99, zto, ztp1, ztp2, ztgo, ztso, ztsp, ztsx, zc0, zi0, zc1, zi1, zc2, zi2, zc3, zi3, zc4, zi4, zc5, zi5, hp_sr, TM_of, hnx]
  have hlo : ∀ Z : Mem, am_ob (hp (48 + 2 * t) Z) (some (48 + 2 * t)) 3 = true := fun Z => zlo ht
  -- without a key: refused there
  have nokey : kwT b T1 = none → ∃ N f s st e, fxX8_read (some 79) (some (48 + 2 * t)) (hp lp M) = some (nI T1.2.1, hp (48 + 2 * t) (TM N f s st e)) ∧ (∀ z, z ≠ 48 + 2 * t → z ≠ 49 + 2 * t → N z = M z) := by
    intro hk
    have hf : ∀ w, w < 3 → (decide (q = 1 ∧ T1.2.2 - T1.2.1 = 4) && wK b T1.2.1 w 4 0) = false := by
      intro w hw3
      by_cases hc : q = 1 ∧ T1.2.2 - T1.2.1 = 4
      · have hT1' : T1.1 = 1 := by
          rcases hor with ⟨-, -, h⟩ | ⟨-, -, h⟩
          · exact absurd hc.1 h
          · rw [← h]; exact hc.1
        unfold kwT at hk
        rw [if_pos ⟨hT1', hc.2⟩] at hk
        rw [decide_eq_true hc, Bool.true_and]
        cases hww : wK b T1.2.1 w 4 0 with
        | false => rfl
        | true =>
          exfalso
          rcases (show w = 0 ∨ w = 1 ∨ w = 2 by omega) with rfl | rfl | rfl
          · rw [if_pos hww] at hk; cases hk
          · rw [if_pos hww] at hk; split at hk <;> cases hk
          · rw [if_pos hww] at hk; split at hk
            · cases hk
            · split at hk <;> cases hk
      · rw [decide_eq_false hc, Bool.false_and]
    rw [hf 0 (by decide)] at w0
    rw [hf 1 (by decide)] at w1
    rw [hf 2 (by decide)] at w2
    have w0 : fxX8_wordIs (some 79) 2 (hp (48 + 2 * t) (TM M g (nI q) (nI T1.2.1) (nI T1.2.2))) = some (bi false, hp (48 + 2 * t) (TM M g (nI q) (nI T1.2.1) (nI T1.2.2))) := w0
    have w1 : fxX8_wordIs (some 79) 3 (hp (48 + 2 * t) (TM M g (nI q) (nI T1.2.1) (nI T1.2.2))) = some (bi false, hp (48 + 2 * t) (TM M g (nI q) (nI T1.2.1) (nI T1.2.2))) := w1
    have w2 : fxX8_wordIs (some 79) 4 (hp (48 + 2 * t) (TM M g (nI q) (nI T1.2.1) (nI T1.2.2))) = some (bi false, hp (48 + 2 * t) (TM M g (nI q) (nI T1.2.1) (nI T1.2.2))) := w2
    refine ⟨M, nI T1.2.1, nI q, nI T1.2.1, nI T1.2.2, ?_, fun _ _ _ => rfl⟩
    have href : fxX8_refuse (some 79) (hp (48 + 2 * t) (TM M g (nI q) (nI T1.2.1) (nI T1.2.2))) = some ((), hp (48 + 2 * t) (TM M (nI T1.2.1) (nI q) (nI T1.2.1) (nI T1.2.2))) := by
      rcases hor with ⟨-, h, -⟩ | ⟨-, h, -⟩
      · subst h; exact q_refuse' (nm1 (by omega))
      · subst h; exact q_refuse
    rw [head]
    simp only [fxX8_key, am_gd_t, am_lt_e, am_bd_s, bi_0, bi_bz, bz0, bz1, nz2, nz10, nz100, hp_gi, hp_si, ↓reduceIte, if_true, if_false, Bool.true_eq_false, Bool.false_eq_true, eq_self, reduceCtorEq, zo0, zp0_0, zp0_1, zp0_2, zp0_4, zp0_5, zp0_6, zp0_7, zp0_8, zp0_9, zp0_10, zo1, zp1_0, zp1_5, zp1_6, zp1_9, zo16, zp16_0, zp16_5, zp16_6, zp16_9, zo31, zp31_0, zp31_5, zp31_6, zp31_9, zo46, zp46_0, zp46_1, zp46_2, zo79, zp79_0, zo83, zp83_0, zp83_1, zp83_2, zo87, zp87_0, zp87_1, zo121, zp121_0, zp121_1, zp121_2, zp121_4, zp121_5, zp121_6, zp121_7, zp121_8, zp121_16, zp121_17, zp121_18, zp121_21, zp121_23, zp121_24, zp121_25, zp121_26, zp121_27, zp121_28, zp121_29, zp121_30, zp121_31, zp121_32, zp121_33, zp121_34, zp79_2, zx2, zx13, zx14, zx15, zx17, zx28, zx29, zx30, zx32, zx43, zx44, zx45, zx47, zx78, zx80, zx84, zx85, zx86, zx88, zx89, zx90, zx99, zx120, zx122, zx123, zx124, zx125, zx126, zx127, zx128, zx129, zx130, zx131, zx132, zx133, zx134, zx135, zx136, zx137, zx138, zx139, zx140, zx141, zx142, zx143, zx144, zx145, zg2, zg17, zg32, zgo3, zgo18, zgo33, zl47, zlo, zlp, zlx, zs90, zso, zsp, zsx, zt99, zto, ztp1, ztp2, ztgo, ztso, ztsp, ztsx, zc0, zi0, zc1, zi1, zc2, zi2, zc3, zi3, zc4, zi4, zc5, zi5, w0, w1, w2, href]
    exact read_fault (nm1 (by omega))
  -- with one: on with the expression
  have withkey : ∀ K, kwT b T1 = some K → ∃ X, fxX8_read (some 79) (some (48 + 2 * t)) (hp lp M) = am_bd (fxX8_level (some 79) (0 : Int32) (0 : Int32) (0 : Int32) (hp (48 + 2 * t) X)) (fun _ h5 => am_gd (am_ob h5 (some 79) 8) (if (am_gi h5 (some 79) 4) = 0 then (fxX8_read_b35 (some 79) h5) else (am_gd (am_ob h5 (some 79) 8) (am_bd (fxX8_refuse (some 79) h5) (fun _ h6 => fxX8_read_b35 (some 79) h6))))) ∧ CA M t K (nx b n T1, [], 0) true X := by
    intro K hk
    obtain ⟨hK, hT11⟩ := kw_lt hk
    have hgq : g = -1 ∧ q = T1.1 := by
      rcases hor with ⟨h, -⟩ | ⟨-, h1, h2⟩
      · omega
      · exact ⟨h1, h2⟩
    obtain ⟨hg, hq⟩ := hgq
    subst hg
    have hl4 : T1.2.2 - T1.2.1 = 4 := by
      unfold kwT at hk
      split at hk
      · next x => exact x.2
      · cases hk
    have hdc : decide (q = 1 ∧ T1.2.2 - T1.2.1 = 4) = true := decide_eq_true ⟨by rw [hq]; exact hT11, hl4⟩
    generalize hN : am_up (am_up (am_up M (48 + 2 * t) 0 (nI K)) (48 + 2 * t) 1 0) (48 + 2 * t) 3 0 = N
    have rN : ∀ z, z ≠ 48 + 2 * t → N z = M z := fun z hz => by rw [← hN, am_up_ne hz, am_up_ne hz, am_up_ne hz]
    have hCA0 : CA M t K (T1, [], 0) true (TM N (-1) (nI q) (nI T1.2.1) (nI T1.2.2)) := ⟨N, -1, q, 0, rfl, hq3, fun _ => hq, Or.inl ⟨rfl, by dsimp only; omega, rfl, rfl, trivial, by rw [← hN, up_nj (by decide), up_eq]; rfl⟩, by omega, by rw [← hN, up_eq]; rfl, by rw [← hN, up_nj (by decide), up_nj (by decide), up_eq], fun z z1 _ => rN z z1⟩
    obtain ⟨X, p1, p2⟩ := CA_next (lp := 48 + 2 * t) (s := (T1, [], 0)) ht hB hT1 (by dsimp only; omega) hCA0
    refine ⟨X, ?_, p2⟩
    have hbeg : ∀ k, k = nI K → fxX3_begin (some (48 + 2 * t)) k (hp (48 + 2 * t) (TM M (-1) (nI q) (nI T1.2.1) (nI T1.2.2))) = some ((), hp (48 + 2 * t) (TM N (-1) (nI q) (nI T1.2.1) (nI T1.2.2))) := by
      intro k hkk
      subst hkk
      simp only [fxX3_begin, am_gd_t, am_lt_e, am_bd_s, bi_0, bi_bz, bz0, bz1, nz2, nz10, nz100, hp_gi, hp_si, ↓reduceIte, if_true, if_false, Bool.true_eq_false, Bool.false_eq_true, eq_self, reduceCtorEq, zo0, zp0_0, zp0_1, zp0_2, zp0_4, zp0_5, zp0_6, zp0_7, zp0_8, zp0_9, zp0_10, zo1, zp1_0, zp1_5, zp1_6, zp1_9, zo16, zp16_0, zp16_5, zp16_6, zp16_9, zo31, zp31_0, zp31_5, zp31_6, zp31_9, zo46, zp46_0, zp46_1, zp46_2, zo79, zp79_0, zo83, zp83_0, zp83_1, zp83_2, zo87, zp87_0, zp87_1, zo121, zp121_0, zp121_1, zp121_2, zp121_4, zp121_5, zp121_6, zp121_7, zp121_8, zp121_16, zp121_17, zp121_18, zp121_21, zp121_23, zp121_24, zp121_25, zp121_26, zp121_27, zp121_28, zp121_29, zp121_30, zp121_31, zp121_32, zp121_33, zp121_34, zp79_2, zx2, zx13, zx14, zx15, zx17, zx28, zx29, zx30, zx32, zx43, zx44, zx45, zx47, zx78, zx80, zx84, zx85, zx86, zx88, zx89, zx90, zx99, zx120, zx122, zx123, zx124, zx125, zx126, zx127, zx128, zx129, zx130, zx131, zx132, zx133, zx134, zx135, zx136, zx137, zx138, zx139, zx140, zx141, zx142, zx143, zx144, zx145, zg2, zg17, zg32, zgo3, zgo18, zgo33, zl47, zlo, zlp, zlx, zs90, zso, zsp, zsx, zt99, zto, ztp1, ztp2, ztgo, ztso, ztsp, ztsx, zc0, zi0, zc1, zi1, zc2, zi2, zc3, zi3, zc4, zi4, zc5, zi5, hlo]
      rw [tm_ou (by omega), tm_ou (by omega), tm_ou (by omega), hN]
    rw [head]
    rw [hdc, Bool.true_and] at w0 w1 w2
    have w0 : fxX8_wordIs (some 79) 2 (hp (48 + 2 * t) (TM M (-1) (nI q) (nI T1.2.1) (nI T1.2.2))) = some (bi (wK b T1.2.1 0 4 0), hp (48 + 2 * t) (TM M (-1) (nI q) (nI T1.2.1) (nI T1.2.2))) := w0
    have w1 : fxX8_wordIs (some 79) 3 (hp (48 + 2 * t) (TM M (-1) (nI q) (nI T1.2.1) (nI T1.2.2))) = some (bi (wK b T1.2.1 1 4 0), hp (48 + 2 * t) (TM M (-1) (nI q) (nI T1.2.1) (nI T1.2.2))) := w1
    have w2 : fxX8_wordIs (some 79) 4 (hp (48 + 2 * t) (TM M (-1) (nI q) (nI T1.2.1) (nI T1.2.2))) = some (bi (wK b T1.2.1 2 4 0), hp (48 + 2 * t) (TM M (-1) (nI q) (nI T1.2.1) (nI T1.2.2))) := w2
    unfold kwT at hk
    rw [if_pos ⟨hT11, hl4⟩] at hk
    cases c0 : wK b T1.2.1 0 4 0 with
    | true =>
      rw [if_pos c0] at hk
      obtain rfl : K = 0 := (Option.some.inj hk).symm
      rw [c0] at w0
      simp only [fxX8_key, am_gd_t, am_lt_e, am_bd_s, bi_0, bi_bz, bz0, bz1, nz2, nz10, nz100, hp_gi, hp_si, ↓reduceIte, if_true, if_false, Bool.true_eq_false, Bool.false_eq_true, eq_self, reduceCtorEq, zo0, zp0_0, zp0_1, zp0_2, zp0_4, zp0_5, zp0_6, zp0_7, zp0_8, zp0_9, zp0_10, zo1, zp1_0, zp1_5, zp1_6, zp1_9, zo16, zp16_0, zp16_5, zp16_6, zp16_9, zo31, zp31_0, zp31_5, zp31_6, zp31_9, zo46, zp46_0, zp46_1, zp46_2, zo79, zp79_0, zo83, zp83_0, zp83_1, zp83_2, zo87, zp87_0, zp87_1, zo121, zp121_0, zp121_1, zp121_2, zp121_4, zp121_5, zp121_6, zp121_7, zp121_8, zp121_16, zp121_17, zp121_18, zp121_21, zp121_23, zp121_24, zp121_25, zp121_26, zp121_27, zp121_28, zp121_29, zp121_30, zp121_31, zp121_32, zp121_33, zp121_34, zp79_2, zx2, zx13, zx14, zx15, zx17, zx28, zx29, zx30, zx32, zx43, zx44, zx45, zx47, zx78, zx80, zx84, zx85, zx86, zx88, zx89, zx90, zx99, zx120, zx122, zx123, zx124, zx125, zx126, zx127, zx128, zx129, zx130, zx131, zx132, zx133, zx134, zx135, zx136, zx137, zx138, zx139, zx140, zx141, zx142, zx143, zx144, zx145, zg2, zg17, zg32, zgo3, zgo18, zgo33, zl47, zlo, zlp, zlx, zs90, zso, zsp, zsx, zt99, zto, ztp1, ztp2, ztgo, ztso, ztsp, ztsx, zc0, zi0, zc1, zi1, zc2, zi2, zc3, zi3, zc4, zi4, zc5, zi5, w0, hlo, hbeg 0 rfl, p1]
    | false =>
      rw [if_neg (by rw [c0]; decide)] at hk
      rw [c0] at w0
      cases c1 : wK b T1.2.1 1 4 0 with
      | true =>
        rw [if_pos c1] at hk
        obtain rfl : K = 1 := (Option.some.inj hk).symm
        rw [c1] at w1
        simp only [fxX8_key, am_gd_t, am_lt_e, am_bd_s, bi_0, bi_bz, bz0, bz1, nz2, nz10, nz100, hp_gi, hp_si, ↓reduceIte, if_true, if_false, Bool.true_eq_false, Bool.false_eq_true, eq_self, reduceCtorEq, zo0, zp0_0, zp0_1, zp0_2, zp0_4, zp0_5, zp0_6, zp0_7, zp0_8, zp0_9, zp0_10, zo1, zp1_0, zp1_5, zp1_6, zp1_9, zo16, zp16_0, zp16_5, zp16_6, zp16_9, zo31, zp31_0, zp31_5, zp31_6, zp31_9, zo46, zp46_0, zp46_1, zp46_2, zo79, zp79_0, zo83, zp83_0, zp83_1, zp83_2, zo87, zp87_0, zp87_1, zo121, zp121_0, zp121_1, zp121_2, zp121_4, zp121_5, zp121_6, zp121_7, zp121_8, zp121_16, zp121_17, zp121_18, zp121_21, zp121_23, zp121_24, zp121_25, zp121_26, zp121_27, zp121_28, zp121_29, zp121_30, zp121_31, zp121_32, zp121_33, zp121_34, zp79_2, zx2, zx13, zx14, zx15, zx17, zx28, zx29, zx30, zx32, zx43, zx44, zx45, zx47, zx78, zx80, zx84, zx85, zx86, zx88, zx89, zx90, zx99, zx120, zx122, zx123, zx124, zx125, zx126, zx127, zx128, zx129, zx130, zx131, zx132, zx133, zx134, zx135, zx136, zx137, zx138, zx139, zx140, zx141, zx142, zx143, zx144, zx145, zg2, zg17, zg32, zgo3, zgo18, zgo33, zl47, zlo, zlp, zlx, zs90, zso, zsp, zsx, zt99, zto, ztp1, ztp2, ztgo, ztso, ztsp, ztsx, zc0, zi0, zc1, zi1, zc2, zi2, zc3, zi3, zc4, zi4, zc5, zi5, w0, w1, hlo, hbeg 1 rfl, p1]
      | false =>
        rw [if_neg (by rw [c1]; decide)] at hk
        rw [c1] at w1
        cases c2 : wK b T1.2.1 2 4 0 with
        | true =>
          rw [if_pos c2] at hk
          obtain rfl : K = 2 := (Option.some.inj hk).symm
          rw [c2] at w2
          simp only [fxX8_key, am_gd_t, am_lt_e, am_bd_s, bi_0, bi_bz, bz0, bz1, nz2, nz10, nz100, hp_gi, hp_si, ↓reduceIte, if_true, if_false, Bool.true_eq_false, Bool.false_eq_true, eq_self, reduceCtorEq, zo0, zp0_0, zp0_1, zp0_2, zp0_4, zp0_5, zp0_6, zp0_7, zp0_8, zp0_9, zp0_10, zo1, zp1_0, zp1_5, zp1_6, zp1_9, zo16, zp16_0, zp16_5, zp16_6, zp16_9, zo31, zp31_0, zp31_5, zp31_6, zp31_9, zo46, zp46_0, zp46_1, zp46_2, zo79, zp79_0, zo83, zp83_0, zp83_1, zp83_2, zo87, zp87_0, zp87_1, zo121, zp121_0, zp121_1, zp121_2, zp121_4, zp121_5, zp121_6, zp121_7, zp121_8, zp121_16, zp121_17, zp121_18, zp121_21, zp121_23, zp121_24, zp121_25, zp121_26, zp121_27, zp121_28, zp121_29, zp121_30, zp121_31, zp121_32, zp121_33, zp121_34, zp79_2, zx2, zx13, zx14, zx15, zx17, zx28, zx29, zx30, zx32, zx43, zx44, zx45, zx47, zx78, zx80, zx84, zx85, zx86, zx88, zx89, zx90, zx99, zx120, zx122, zx123, zx124, zx125, zx126, zx127, zx128, zx129, zx130, zx131, zx132, zx133, zx134, zx135, zx136, zx137, zx138, zx139, zx140, zx141, zx142, zx143, zx144, zx145, zg2, zg17, zg32, zgo3, zgo18, zgo33, zl47, zlo, zlp, zlx, zs90, zso, zsp, zsx, zt99, zto, ztp1, ztp2, ztgo, ztso, ztsp, ztsx, zc0, zi0, zc1, zi1, zc2, zi2, zc3, zi3, zc4, zi4, zc5, zi5, w0, w1, w2, hlo, hbeg 2 rfl, p1]
        | false =>
          rw [if_neg (by rw [c2]; decide)] at hk
          cases hk
  have main : ∀ K, kwT b T1 = some K → ∃ X', CA M t K ((dlp b n K 100).1 0 0 0 (nx b n T1, [], 0)).1 ((dlp b n K 100).1 0 0 0 (nx b n T1, [], 0)).2 X' ∧ TkOk b n ((dlp b n K 100).1 0 0 0 (nx b n T1, [], 0)).1.1 ∧ fxX8_read (some 79) (some (48 + 2 * t)) (hp lp M) = (if (am_gi (hp (48 + 2 * t) X') (some 79) 4) = 0 then (fxX8_read_b35 (some 79) (hp (48 + 2 * t) X')) else (am_gd (am_ob (hp (48 + 2 * t) X') (some 79) 8) (am_bd (fxX8_refuse (some 79) (hp (48 + 2 * t) X')) (fun _ h6 => fxX8_read_b35 (some 79) h6)))) := by
    intro K hk
    obtain ⟨hK, hT11⟩ := kw_lt hk
    obtain ⟨X, p1, p2⟩ := withkey K hk
    obtain ⟨g1, g2⟩ := nx_go hT1 (by omega)
    obtain ⟨X', u1, u2⟩ := (thmA ht hK hB 100).1 0 0 0 (nx b n T1, [], 0) X (by omega) (by omega) (by omega) (by unfold ndP; omega) ⟨g1, Nat.zero_le _⟩ p2
    have u1 : fxX8_level (some 79) (0 : Int32) (0 : Int32) (0 : Int32) (hp (48 + 2 * t) X) = some ((), hp (48 + 2 * t) X') := u1
    obtain ⟨r1, -, -⟩ := (dlp_g (b := b) (n := n) (K := K) 100).1 0 0 0 (nx b n T1, [], 0) g1
    refine ⟨X', u2, r1, ?_⟩
    rw [p1, u1]
    simp only [am_bd_s, zo79, am_gd_t]
  constructor
  · intro p hp'
    unfold rdP at hp'
    rw [hT] at hp'
    cases hk : kwT b T1 with
    | none =>
      rw [hk] at hp'
      have : p = T1.2.1 := (Sum.inl.inj hp').symm
      subst this
      obtain ⟨N, f, s, st, e, h1, h2⟩ := nokey hk
      exact ⟨N, f, s, st, e, h1, h2, by omega⟩
    | some K =>
      rw [hk] at hp'
      dsimp only at hp'
      obtain ⟨X', u1, u2, u3⟩ := main K hk
      generalize (dlp b n K 100).1 0 0 0 (nx b n T1, [], 0) = r at *
      split at hp'
      · cases hp'
      · next hc =>
        have hpe : p = r.1.1.2.1 := (Sum.inl.inj hp').symm
        subst hpe
        have hst' : r.1.1.2.1 ≤ n := by have := u2.1; have := u2.2.1; omega
        by_cases h4 : r.2 = false ∨ r.1.1.1 = 4
        · obtain ⟨N, f, q', hX', hq', hf, h7, -⟩ := CA_f u1 h4
          have hne : ¬ f = -1 := by rw [hf]; exact nm1 (by omega)
          refine ⟨N, f, nI q', nI r.1.1.2.1, nI r.1.1.2.2, ?_, h7, by omega⟩
          rw [u3, hX']
          simp only [fxX8_read_b35, am_gd_t, am_lt_e, am_bd_s, bi_0, bi_bz, bz0, bz1, nz2, nz10, nz100, hp_gi, hp_si, ↓reduceIte, if_true, if_false, Bool.true_eq_false, Bool.false_eq_true, eq_self, reduceCtorEq, zo0, zp0_0, zp0_1, zp0_2, zp0_4, zp0_5, zp0_6, zp0_7, zp0_8, zp0_9, zp0_10, zo1, zp1_0, zp1_5, zp1_6, zp1_9, zo16, zp16_0, zp16_5, zp16_6, zp16_9, zo31, zp31_0, zp31_5, zp31_6, zp31_9, zo46, zp46_0, zp46_1, zp46_2, zo79, zp79_0, zo83, zp83_0, zp83_1, zp83_2, zo87, zp87_0, zp87_1, zo121, zp121_0, zp121_1, zp121_2, zp121_4, zp121_5, zp121_6, zp121_7, zp121_8, zp121_16, zp121_17, zp121_18, zp121_21, zp121_23, zp121_24, zp121_25, zp121_26, zp121_27, zp121_28, zp121_29, zp121_30, zp121_31, zp121_32, zp121_33, zp121_34, zp79_2, zx2, zx13, zx14, zx15, zx17, zx28, zx29, zx30, zx32, zx43, zx44, zx45, zx47, zx78, zx80, zx84, zx85, zx86, zx88, zx89, zx90, zx99, zx120, zx122, zx123, zx124, zx125, zx126, zx127, zx128, zx129, zx130, zx131, zx132, zx133, zx134, zx135, zx136, zx137, zx138, zx139, zx140, zx141, zx142, zx143, zx144, zx145, zg2, zg17, zg32, zgo3, zgo18, zgo33, zl47, zlo, zlp, zlx, zs90, zso, zsp, zsx, zt99, zto, ztp1, ztp2, ztgo, ztso, ztsp, ztsx, zc0, zi0, zc1, zi1, zc2, zi2, zc3, zi3, zc4, zi4, zc5, zi5, tm_3, q_refuse' hne, ite_self]
          rw [hf]
        · have hok : r.2 = true := by
            cases hh : r.2 with
            | true => rfl
            | false => exact absurd (Or.inl hh) h4
          have h4' : r.1.1.1 ≠ 4 := fun x => h4 (Or.inr x)
          rw [hok] at u1
          obtain ⟨N, len, hX', hq', hk', h7⟩ := CA_ok u1 h4'
          have hn0 : r.1.1.1 ≠ 0 := fun x => hc ⟨hok, x⟩
          have hz : (nI r.1.1.1 = 0) = False := eq_false (nI_ne0 (by omega) (by omega))
          refine ⟨N, nI r.1.1.2.1, nI r.1.1.1, nI r.1.1.2.1, nI r.1.1.2.2, ?_, h7, by omega⟩
          rw [u3, hX']
          simp only [fxX8_read_b35, am_gd_t, am_lt_e, am_bd_s, bi_0, bi_bz, bz0, bz1, nz2, nz10, nz100, hp_gi, hp_si, ↓reduceIte, if_true, if_false, Bool.true_eq_false, Bool.false_eq_true, eq_self, reduceCtorEq, zo0, zp0_0, zp0_1, zp0_2, zp0_4, zp0_5, zp0_6, zp0_7, zp0_8, zp0_9, zp0_10, zo1, zp1_0, zp1_5, zp1_6, zp1_9, zo16, zp16_0, zp16_5, zp16_6, zp16_9, zo31, zp31_0, zp31_5, zp31_6, zp31_9, zo46, zp46_0, zp46_1, zp46_2, zo79, zp79_0, zo83, zp83_0, zp83_1, zp83_2, zo87, zp87_0, zp87_1, zo121, zp121_0, zp121_1, zp121_2, zp121_4, zp121_5, zp121_6, zp121_7, zp121_8, zp121_16, zp121_17, zp121_18, zp121_21, zp121_23, zp121_24, zp121_25, zp121_26, zp121_27, zp121_28, zp121_29, zp121_30, zp121_31, zp121_32, zp121_33, zp121_34, zp79_2, zx2, zx13, zx14, zx15, zx17, zx28, zx29, zx30, zx32, zx43, zx44, zx45, zx47, zx78, zx80, zx84, zx85, zx86, zx88, zx89, zx90, zx99, zx120, zx122, zx123, zx124, zx125, zx126, zx127, zx128, zx129, zx130, zx131, zx132, zx133, zx134, zx135, zx136, zx137, zx138, zx139, zx140, zx141, zx142, zx143, zx144, zx145, zg2, zg17, zg32, zgo3, zgo18, zgo33, zl47, zlo, zlp, zlx, zs90, zso, zsp, zsx, zt99, zto, ztp1, ztp2, ztgo, ztso, ztsp, ztsx, zc0, zi0, zc1, zi1, zc2, zi2, zc3, zi3, zc4, zi4, zc5, zi5, tm_3, tm_4, hz, q_refuse]
  · intro K c o hp'
    unfold rdP at hp'
    rw [hT] at hp'
    cases hk : kwT b T1 with
    | none => rw [hk] at hp'; cases hp'
    | some K' =>
      rw [hk] at hp'
      dsimp only at hp'
      obtain ⟨X', u1, u2, u3⟩ := main K' hk
      generalize (dlp b n K' 100).1 0 0 0 (nx b n T1, [], 0) = r at *
      split at hp'
      · next hc =>
        have he := Sum.inr.inj hp'
        have hK' : K' = K := congrArg Prod.fst he
        have hco : r.1.2 = (c, o) := congrArg Prod.snd he
        subst hK'
        rw [hc.1] at u1
        obtain ⟨N, f, q', len, hX', h1, h2, h3, h4, h5, h6, h7⟩ := u1
        rcases h3 with ⟨a1, a2, a3, a4, a5, a6⟩ | ⟨a1, a2⟩
        · subst a3
          rw [hco] at a4 a5 a6
          have hq0 : q' = 0 := by rw [h2 a2]; exact hc.2
          subst hq0
          subst a4
          refine ⟨N, -1, nI 0, nI r.1.1.2.1, nI r.1.1.2.2, ?_, h7, (kw_lt hk).1, h4, h6, a6, h5, a5⟩
          rw [u3, hX']
          simp only [fxX8_read_b35, am_gd_t, am_lt_e, am_bd_s, bi_0, bi_bz, bz0, bz1, nz2, nz10, nz100, hp_gi, hp_si, ↓reduceIte, if_true, if_false, Bool.true_eq_false, Bool.false_eq_true, eq_self, reduceCtorEq, zo0, zp0_0, zp0_1, zp0_2, zp0_4, zp0_5, zp0_6, zp0_7, zp0_8, zp0_9, zp0_10, zo1, zp1_0, zp1_5, zp1_6, zp1_9, zo16, zp16_0, zp16_5, zp16_6, zp16_9, zo31, zp31_0, zp31_5, zp31_6, zp31_9, zo46, zp46_0, zp46_1, zp46_2, zo79, zp79_0, zo83, zp83_0, zp83_1, zp83_2, zo87, zp87_0, zp87_1, zo121, zp121_0, zp121_1, zp121_2, zp121_4, zp121_5, zp121_6, zp121_7, zp121_8, zp121_16, zp121_17, zp121_18, zp121_21, zp121_23, zp121_24, zp121_25, zp121_26, zp121_27, zp121_28, zp121_29, zp121_30, zp121_31, zp121_32, zp121_33, zp121_34, zp79_2, zx2, zx13, zx14, zx15, zx17, zx28, zx29, zx30, zx32, zx43, zx44, zx45, zx47, zx78, zx80, zx84, zx85, zx86, zx88, zx89, zx90, zx99, zx120, zx122, zx123, zx124, zx125, zx126, zx127, zx128, zx129, zx130, zx131, zx132, zx133, zx134, zx135, zx136, zx137, zx138, zx139, zx140, zx141, zx142, zx143, zx144, zx145, zg2, zg17, zg32, zgo3, zgo18, zgo33, zl47, zlo, zlp, zlx, zs90, zso, zsp, zsx, zt99, zto, ztp1, ztp2, ztgo, ztso, ztsp, ztsx, zc0, zi0, zc1, zi1, zc2, zi2, zc3, zi3, zc4, zi4, zc5, zi5, tm_3, tm_4, show (nI 0 = 0) = True from by decide]
        · rcases a1 with a1 | a1
          · cases a1
          · have := hc.2; omega
      · cases hp'
