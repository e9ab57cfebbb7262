/-! ===== the reference's whole reading ===== -/
theorem GM_self (M : Mem) : GM M (M 121 10) (M 121 11) (M 121 12) (M 121 13) (M 121 14) (M 121 19) (M 121 20) (M 121 22) = M := by
  funext a c
  unfold GM
  by_cases ha : a = 121
  · subst ha
    rw [if_pos rfl]
    unfold gr
    by_cases h10 : c = 10
    · subst h10; rfl
    by_cases h11 : c = 11
    · subst h11; rfl
    by_cases h12 : c = 12
    · subst h12; rfl
    by_cases h13 : c = 13
    · subst h13; rfl
    by_cases h14 : c = 14
    · subst h14; rfl
    by_cases h19 : c = 19
    · subst h19; rfl
    by_cases h20 : c = 20
    · subst h20; rfl
    by_cases h22 : c = 22
    · subst h22; rfl
    simp [h10, h11, h12, h13, h14, h19, h20, h22]
  · rw [if_neg ha]
theorem gm_u9 (M : Mem) (nx fr tk vl ed cd am hd v : Int32) : am_up (GM M nx fr tk vl ed cd am hd) 121 9 v = GM (am_up M 121 9 v) nx fr tk vl ed cd am hd := by
  funext a c
  by_cases ha : a = 121
  · subst ha
    rw [up_row]
    show (if c = 9 then v else gr (M 121) nx fr tk vl ed cd am hd c) = gr (am_up M 121 9 v 121) nx fr tk vl ed cd am hd c
    rw [up_row]
    unfold gr up1
    by_cases hc : c = 9
    · subst hc; rfl
    · simp [hc]
  · unfold GM
    rw [if_neg ha]
    unfold am_up
    simp [ha]
theorem gm_u15 (M : Mem) (nx fr tk vl ed cd am hd v : Int32) : am_up (GM M nx fr tk vl ed cd am hd) 121 15 v = GM (am_up M 121 15 v) nx fr tk vl ed cd am hd := by
  funext a c
  by_cases ha : a = 121
  · subst ha
    rw [up_row]
    show (if c = 15 then v else gr (M 121) nx fr tk vl ed cd am hd c) = gr (am_up M 121 15 v 121) nx fr tk vl ed cd am hd c
    rw [up_row]
    unfold gr up1
    by_cases hc : c = 15
    · subst hc; rfl
    · simp [hc]
  · unfold GM
    rw [if_neg ha]
    unfold am_up
    simp [ha]
theorem kc_eq {w i : Nat} (hw : w < 3) (hi : i < 4) : keysL.getD (4 * w + i) 0 = nI (kc w i) := by
  rcases (show w = 0 ∨ w = 1 ∨ w = 2 by omega) with rfl | rfl | rfl <;> rcases (show i = 0 ∨ i = 1 ∨ i = 2 ∨ i = 3 by omega) with rfl | rfl | rfl | rfl <;> rfl
theorem q_takesKey {lp n : Nat} {b : Nat → Nat} {M : Mem} {T : Tk} {vl ed cd am hd : Int32} (hB : TpR M b n) (hT : TkOk b n T) (hx1 : ∀ k, k < 12 → M 130 k = keysL.getD k 0) (hx2 : ∀ k, k < 4 → M 131 k = nI (4 * k)) : (kwT b T = none → fxX10_takesKey (some 121) (hp lp (GM M (nI T.2.2) (nI T.2.1) (nI T.1) vl ed cd am hd)) = some (0, hp lp (GM M (nI T.2.2) (nI T.2.1) (nI T.1) vl ed cd am hd))) ∧ (∀ K, kwT b T = some K → fxX10_takesKey (some 121) (hp lp (GM M (nI T.2.2) (nI T.2.1) (nI T.1) vl ed cd am hd)) = am_bd (fxX10_go (some 121) (hp lp (GM (am_up M 121 15 (nI K)) (nI T.2.2) (nI T.2.1) (nI T.1) vl ed cd am hd))) (fun _ h13 => some ((1 : Int32), h13))) := by
  have hn := hB.1
  have h1 := hT.1
  have h2 := hT.2.1
  have hT4 := hT.2.2.2.2.1
  generalize hX : GM M (nI T.2.2) (nI T.2.1) (nI T.1) vl ed cd am hd = X
  have x10 : X 121 10 = nI T.2.2 := by rw [← hX, gm_10]
  have x11 : X 121 11 = nI T.2.1 := by rw [← hX, gm_11]
  have x12 : X 121 12 = nI T.1 := by rw [← hX, gm_12]
  have x129 : ∀ i, i < n → X 129 i = nI (b i) := fun i hi => by rw [← hX, gm_129]; exact (hB.2.2 i hi).1
  have x130 : ∀ w i, w < 3 → i < 4 → X 130 (4 * w + i) = nI (kc w i) := fun w i hw hi => by rw [← hX, gm_130, hx1 _ (by omega), kc_eq hw hi]
  have x131 : ∀ w, w < 4 → X 131 w = nI (4 * w) := fun w hw => by rw [← hX, gm_131]; exact hx2 w hw
  have xu : ∀ K, am_up X 121 15 (nI K) = GM (am_up M 121 15 (nI K)) (nI T.2.2) (nI T.2.1) (nI T.1) vl ed cd am hd := fun K => by rw [← hX, gm_u15]
  by_cases hT1 : T.1 = 1
  · have d1 : (nI T.1 = (1 : Int32)) = True := by rw [hT1]; decide
    have c4 : ((4 : Int32) = nI T.2.2 - nI T.2.1) = (T.2.2 - T.2.1 = 4) := by
      rw [pk_sub h1]
      apply propext
      constructor
      · intro q; exact ((nI_eq (a := 4) (by decide) (by omega)).mp q).symm
      · intro q; rw [q]; rfl
    have L55 : ∀ (k12 : Option Nat → Int32 → am_H → Option (Int32 × am_H)) w, w < 3 → ∀ k i fuel sm, i + k = 4 → k < fuel → (sm = true → T.2.1 + 4 ≤ n) → fxX10_takesKey_b55 k12 fuel (some 121) (nI w) (4 : Int32) (bi sm) (nI i) (hp lp X) = fxX10_takesKey_b106 k12 (some 121) (nI w) (bi (sm && wK b T.2.1 w k i)) (hp lp X) := by
      intro k12 w hw k
      induction k with
      | zero =>
        intro i fuel sm hi hf hs
        obtain ⟨fuel, rfl⟩ : ∃ f, fuel = f + 1 := ⟨fuel - 1, by omega⟩
        obtain rfl : i = 4 := by omega
        simp only [fxX10_takesKey_b55, show ((4 : Int32) ≤ nI 4) = True from by decide, ↓reduceIte, if_true, if_false, Bool.true_eq_false, Bool.false_eq_true, eq_self, reduceCtorEq, wK, Bool.and_true]
      | succ k ih =>
        intro i fuel sm hi hf hs
        obtain ⟨fuel, rfl⟩ : ∃ f, fuel = f + 1 := ⟨fuel - 1, by omega⟩
        have hle : ((4 : Int32) ≤ nI i) = False := zle (n := 4) (by omega) (by decide)
        cases sm with
        | false => simp only [fxX10_takesKey_b55, hle, am_gd_t, am_lt_e, am_bd_s, bi_0, bi_bz, bz0, bz1, nz2, nz10, nz100, hp_gi, hp_si, ↓reduceIte, if_true, if_false, Bool.true_eq_false, Bool.false_eq_true, eq_self, reduceCtorEq, Bool.false_and]
        | true =>
          have hs := hs rfl
          have hb := (hB.2.2 (T.2.1 + i) (by omega)).2
          have hkc := kc_lt w i
          have c3 : (nI (b (T.2.1 + i)) = nI (kc w i)) = (b (T.2.1 + i) = kc w i) := propext (nI_eq (by omega) (by omega))
          have e1 := x129 (T.2.1 + i) (by omega)
          have e2 := x130 w i hw (by omega)
          have e3 := x131 w (by omega)
          rw [Bool.true_and]
          unfold wK
          by_cases hc : b (T.2.1 + i) = kc w i
          · have d := c3.trans (eq_true hc)
            have hI := ih (i + 1) fuel true (by omega) (by omega) (fun _ => hs)
            rw [Bool.true_and] at hI
            rw [show (b (T.2.1 + i) == kc w i) = true from beq_iff_eq.mpr hc, Bool.true_and, ← hI]
            simp (disch := omega) only [fxX10_takesKey_b55, fxX10_takesKey_b99, hle, am_gd_t, am_lt_e, am_bd_s, bi_0, bi_bz, bz0, bz1, nz2, nz10, nz100, hp_gi, hp_si, ↓reduceIte, if_true, if_false, Bool.true_eq_false, Bool.false_eq_true, eq_self, reduceCtorEq, zo0, zp0_0, zp0_1, zp0_2, zp0_4, zp0_5, zp0_6, zp0_7, zp0_8, zp0_9, zp0_10, zo1, zp1_0, zp1_5, zp1_6, zp1_9, zo16, zp16_0, zp16_5, zp16_6, zp16_9, zo31, zp31_0, zp31_5, zp31_6, zp31_9, zo46, zp46_0, zp46_1, zp46_2, zo79, zp79_0, zo83, zp83_0, zp83_1, zp83_2, zo87, zp87_0, zp87_1, zo121, zp121_0, zp121_1, zp121_2, zp121_4, zp121_5, zp121_6, zp121_7, zp121_8, zp121_16, zp121_17, zp121_18, zp121_21, zp121_23, zp121_24, zp121_25, zp121_26, zp121_27, zp121_28, zp121_29, zp121_30, zp121_31, zp121_32, zp121_33, zp121_34, zp79_2, zx2, zx13, zx14, zx15, zx17, zx28, zx29, zx30, zx32, zx43, zx44, zx45, zx47, zx78, zx80, zx84, zx85, zx86, zx88, zx89, zx90, zx99, zx120, zx122, zx123, zx124, zx125, zx126, zx127, zx128, zx129, zx130, zx131, zx132, zx133, zx134, zx135, zx136, zx137, zx138, zx139, zx140, zx141, zx142, zx143, zx144, zx145, zg2, zg17, zg32, zgo3, zgo18, zgo33, zl47, zlo, zlp, zlx, zs90, zso, zsp, zsx, zt99, zto, ztp1, ztp2, ztgo, ztso, ztsp, ztsx, zc0, zi0, zc1, zi1, zc2, zi2, zc3, zi3, zc4, zi4, zc5, zi5, zin, zcl, nI_1, Bool.and_self, Bool.true_and, Bool.and_true, x11, e1, e2, e3, d, nI_add]
            rfl
          · have d := c3.trans (eq_false hc)
            have hI := ih (i + 1) fuel false (by omega) (by omega) (fun q => by cases q)
            rw [Bool.false_and] at hI
            rw [show (b (T.2.1 + i) == kc w i) = false from beq_eq_false_iff_ne.mpr hc, Bool.false_and, ← hI]
            simp (disch := omega) only [fxX10_takesKey_b55, fxX10_takesKey_b99, hle, am_gd_t, am_lt_e, am_bd_s, bi_0, bi_bz, bz0, bz1, nz2, nz10, nz100, hp_gi, hp_si, ↓reduceIte, if_true, if_false, Bool.true_eq_false, Bool.false_eq_true, eq_self, reduceCtorEq, zo0, zp0_0, zp0_1, zp0_2, zp0_4, zp0_5, zp0_6, zp0_7, zp0_8, zp0_9, zp0_10, zo1, zp1_0, zp1_5, zp1_6, zp1_9, zo16, zp16_0, zp16_5, zp16_6, zp16_9, zo31, zp31_0, zp31_5, zp31_6, zp31_9, zo46, zp46_0, zp46_1, zp46_2, zo79, zp79_0, zo83, zp83_0, zp83_1, zp83_2, zo87, zp87_0, zp87_1, zo121, zp121_0, zp121_1, zp121_2, zp121_4, zp121_5, zp121_6, zp121_7, zp121_8, zp121_16, zp121_17, zp121_18, zp121_21, zp121_23, zp121_24, zp121_25, zp121_26, zp121_27, zp121_28, zp121_29, zp121_30, zp121_31, zp121_32, zp121_33, zp121_34, zp79_2, zx2, zx13, zx14, zx15, zx17, zx28, zx29, zx30, zx32, zx43, zx44, zx45, zx47, zx78, zx80, zx84, zx85, zx86, zx88, zx89, zx90, zx99, zx120, zx122, zx123, zx124, zx125, zx126, zx127, zx128, zx129, zx130, zx131, zx132, zx133, zx134, zx135, zx136, zx137, zx138, zx139, zx140, zx141, zx142, zx143, zx144, zx145, zg2, zg17, zg32, zgo3, zgo18, zgo33, zl47, zlo, zlp, zlx, zs90, zso, zsp, zsx, zt99, zto, ztp1, ztp2, ztgo, ztso, ztsp, ztsx, zc0, zi0, zc1, zi1, zc2, zi2, zc3, zi3, zc4, zi4, zc5, zi5, zin, zcl, nI_1, Bool.and_self, Bool.true_and, Bool.and_true, x11, e1, e2, e3, d, nI_add]
            rfl
    have L12 : ∀ w fuel, w < 3 → fxX10_takesKey_b12 (fuel + 1) (some 121) (nI w) (hp lp X) = fxX10_takesKey_b106 (fxX10_takesKey_b12 fuel) (some 121) (nI w) (bi (decide (T.2.2 - T.2.1 = 4) && wK b T.2.1 w 4 0)) (hp lp X) := by
      intro w fuel hw
      have hle : ((3 : Int32) ≤ nI w) = False := zle (n := 3) hw (by decide)
      have e3 := x131 w (by omega)
      have e4 := x131 (w + 1) (by omega)
      have hsub : nI (4 * (w + 1)) - nI (4 * w) = 4 := by
        rw [pk_sub (by omega), show 4 * (w + 1) - 4 * w = 4 by omega]; rfl
      have hs : decide (T.2.2 - T.2.1 = 4) = true → T.2.1 + 4 ≤ n := fun q => by have := of_decide_eq_true q; omega
      have := L55 (fxX10_takesKey_b12 fuel) w hw 4 0 am_F (decide (T.2.2 - T.2.1 = 4)) (by omega) (by unfold am_F; omega) hs
      rw [← this]
      by_cases q : T.2.2 - T.2.1 = 4
      · have d := c4.trans (eq_true q)
        rw [decide_eq_true q]
        simp (disch := omega) only [fxX10_takesKey_b12, fxX10_takesKey_b51, hle, am_gd_t, am_lt_e, am_bd_s, bi_0, bi_bz, bz0, bz1, nz2, nz10, nz100, hp_gi, hp_si, ↓reduceIte, if_true, if_false, Bool.true_eq_false, Bool.false_eq_true, eq_self, reduceCtorEq, zo0, zp0_0, zp0_1, zp0_2, zp0_4, zp0_5, zp0_6, zp0_7, zp0_8, zp0_9, zp0_10, zo1, zp1_0, zp1_5, zp1_6, zp1_9, zo16, zp16_0, zp16_5, zp16_6, zp16_9, zo31, zp31_0, zp31_5, zp31_6, zp31_9, zo46, zp46_0, zp46_1, zp46_2, zo79, zp79_0, zo83, zp83_0, zp83_1, zp83_2, zo87, zp87_0, zp87_1, zo121, zp121_0, zp121_1, zp121_2, zp121_4, zp121_5, zp121_6, zp121_7, zp121_8, zp121_16, zp121_17, zp121_18, zp121_21, zp121_23, zp121_24, zp121_25, zp121_26, zp121_27, zp121_28, zp121_29, zp121_30, zp121_31, zp121_32, zp121_33, zp121_34, zp79_2, zx2, zx13, zx14, zx15, zx17, zx28, zx29, zx30, zx32, zx43, zx44, zx45, zx47, zx78, zx80, zx84, zx85, zx86, zx88, zx89, zx90, zx99, zx120, zx122, zx123, zx124, zx125, zx126, zx127, zx128, zx129, zx130, zx131, zx132, zx133, zx134, zx135, zx136, zx137, zx138, zx139, zx140, zx141, zx142, zx143, zx144, zx145, zg2, zg17, zg32, zgo3, zgo18, zgo33, zl47, zlo, zlp, zlx, zs90, zso, zsp, zsx, zt99, zto, ztp1, ztp2, ztgo, ztso, ztsp, ztsx, zc0, zi0, zc1, zi1, zc2, zi2, zc3, zi3, zc4, zi4, zc5, zi5, zin, zcl, nI_1, Bool.and_self, Bool.true_and, Bool.and_true, x10, x11, e3, e4, hsub, d]
        rfl
      · have d := c4.trans (eq_false q)
        rw [decide_eq_false q]
        simp (disch := omega) only [fxX10_takesKey_b12, fxX10_takesKey_b51, hle, am_gd_t, am_lt_e, am_bd_s, bi_0, bi_bz, bz0, bz1, nz2, nz10, nz100, hp_gi, hp_si, ↓reduceIte, if_true, if_false, Bool.true_eq_false, Bool.false_eq_true, eq_self, reduceCtorEq, zo0, zp0_0, zp0_1, zp0_2, zp0_4, zp0_5, zp0_6, zp0_7, zp0_8, zp0_9, zp0_10, zo1, zp1_0, zp1_5, zp1_6, zp1_9, zo16, zp16_0, zp16_5, zp16_6, zp16_9, zo31, zp31_0, zp31_5, zp31_6, zp31_9, zo46, zp46_0, zp46_1, zp46_2, zo79, zp79_0, zo83, zp83_0, zp83_1, zp83_2, zo87, zp87_0, zp87_1, zo121, zp121_0, zp121_1, zp121_2, zp121_4, zp121_5, zp121_6, zp121_7, zp121_8, zp121_16, zp121_17, zp121_18, zp121_21, zp121_23, zp121_24, zp121_25, zp121_26, zp121_27, zp121_28, zp121_29, zp121_30, zp121_31, zp121_32, zp121_33, zp121_34, zp79_2, zx2, zx13, zx14, zx15, zx17, zx28, zx29, zx30, zx32, zx43, zx44, zx45, zx47, zx78, zx80, zx84, zx85, zx86, zx88, zx89, zx90, zx99, zx120, zx122, zx123, zx124, zx125, zx126, zx127, zx128, zx129, zx130, zx131, zx132, zx133, zx134, zx135, zx136, zx137, zx138, zx139, zx140, zx141, zx142, zx143, zx144, zx145, zg2, zg17, zg32, zgo3, zgo18, zgo33, zl47, zlo, zlp, zlx, zs90, zso, zsp, zsx, zt99, zto, ztp1, ztp2, ztgo, ztso, ztsp, ztsx, zc0, zi0, zc1, zi1, zc2, zi2, zc3, zi3, zc4, zi4, zc5, zi5, zin, zcl, nI_1, Bool.and_self, Bool.true_and, Bool.and_true, x10, x11, e3, e4, hsub, d]
        rfl
    have b106n : ∀ w fuel, fxX10_takesKey_b106 (fxX10_takesKey_b12 fuel) (some 121) (nI w) (bi false) (hp lp X) = fxX10_takesKey_b12 fuel (some 121) (nI (w + 1)) (hp lp X) := fun w fuel => by
      simp only [fxX10_takesKey_b106, am_gd_t, am_lt_e, am_bd_s, bi_0, bi_bz, bz0, bz1, nz2, nz10, nz100, hp_gi, hp_si, ↓reduceIte, if_true, if_false, Bool.true_eq_false, Bool.false_eq_true, eq_self, reduceCtorEq, nI_1]
    have b106y : ∀ w fuel, fxX10_takesKey_b106 (fxX10_takesKey_b12 fuel) (some 121) (nI w) (bi true) (hp lp X) = am_bd (fxX10_go (some 121) (hp lp (GM (am_up M 121 15 (nI w)) (nI T.2.2) (nI T.2.1) (nI T.1) vl ed cd am hd))) (fun _ h13 => some ((1 : Int32), h13)) := fun w fuel => by
      simp only [fxX10_takesKey_b106, am_gd_t, am_lt_e, am_bd_s, bi_0, bi_bz, bz0, bz1, nz2, nz10, nz100, hp_gi, hp_si, ↓reduceIte, if_true, if_false, Bool.true_eq_false, Bool.false_eq_true, eq_self, reduceCtorEq, zo0, zp0_0, zp0_1, zp0_2, zp0_4, zp0_5, zp0_6, zp0_7, zp0_8, zp0_9, zp0_10, zo1, zp1_0, zp1_5, zp1_6, zp1_9, zo16, zp16_0, zp16_5, zp16_6, zp16_9, zo31, zp31_0, zp31_5, zp31_6, zp31_9, zo46, zp46_0, zp46_1, zp46_2, zo79, zp79_0, zo83, zp83_0, zp83_1, zp83_2, zo87, zp87_0, zp87_1, zo121, zp121_0, zp121_1, zp121_2, zp121_4, zp121_5, zp121_6, zp121_7, zp121_8, zp121_16, zp121_17, zp121_18, zp121_21, zp121_23, zp121_24, zp121_25, zp121_26, zp121_27, zp121_28, zp121_29, zp121_30, zp121_31, zp121_32, zp121_33, zp121_34, zp79_2, zx2, zx13, zx14, zx15, zx17, zx28, zx29, zx30, zx32, zx43, zx44, zx45, zx47, zx78, zx80, zx84, zx85, zx86, zx88, zx89, zx90, zx99, zx120, zx122, zx123, zx124, zx125, zx126, zx127, zx128, zx129, zx130, zx131, zx132, zx133, zx134, zx135, zx136, zx137, zx138, zx139, zx140, zx141, zx142, zx143, zx144, zx145, zg2, zg17, zg32, zgo3, zgo18, zgo33, zl47, zlo, zlp, zlx, zs90, zso, zsp, zsx, zt99, zto, ztp1, ztp2, ztgo, ztso, ztsp, ztsx, zc0, zi0, zc1, zi1, zc2, zi2, zc3, zi3, zc4, zi4, zc5, zi5, xu]
    have key : ∀ f, fxX10_takesKey_b12 (f + 4) (some 121) (nI 0) (hp lp X) = (match kwT b T with | none => some ((0 : Int32), hp lp X) | some K => am_bd (fxX10_go (some 121) (hp lp (GM (am_up M 121 15 (nI K)) (nI T.2.2) (nI T.2.1) (nI T.1) vl ed cd am hd))) (fun _ h13 => some ((1 : Int32), h13))) := by
      intro f
      have z0 := L12 0 (f + 3) (by decide)
      have z1 := L12 1 (f + 2) (by decide)
      have z2 := L12 2 (f + 1) (by decide)
      have z3 : fxX10_takesKey_b12 (f + 1) (some 121) (nI 3) (hp lp X) = some (0, hp lp X) := by
        simp only [fxX10_takesKey_b12, show ((3 : Int32) ≤ nI 3) = True from by decide, am_gd_t, am_lt_e, am_bd_s, bi_0, bi_bz, bz0, bz1, nz2, nz10, nz100, hp_gi, hp_si, ↓reduceIte, if_true, if_false, Bool.true_eq_false, Bool.false_eq_true, eq_self, reduceCtorEq]
      unfold kwT
      by_cases q : T.2.2 - T.2.1 = 4
      · rw [if_pos ⟨hT1, q⟩]
        rw [decide_eq_true q, Bool.true_and] at z0 z1 z2
        cases c0 : wK b T.2.1 0 4 0 with
        | true => rw [c0, b106y] at z0; rw [if_pos rfl]; exact z0
        | false =>
          rw [c0, b106n] at z0
          rw [if_neg (by decide)]
          cases c1 : wK b T.2.1 1 4 0 with
          | true => rw [c1, b106y] at z1; rw [if_pos rfl]; exact z0.trans z1
          | false =>
            rw [c1, b106n] at z1
            rw [if_neg (by decide)]
            cases c2 : wK b T.2.1 2 4 0 with
            | true => rw [c2, b106y] at z2; rw [if_pos rfl]; exact z0.trans (z1.trans z2)
            | false =>
              rw [c2, b106n] at z2
              rw [if_neg (by decide)]
              exact z0.trans (z1.trans (z2.trans z3))
      · rw [if_neg (fun x => q x.2)]
        rw [decide_eq_false q, Bool.false_and, b106n] at z0 z1 z2
        exact z0.trans (z1.trans (z2.trans z3))
    have head : fxX10_takesKey (some 121) (hp lp X) = fxX10_takesKey_b12 am_F (some 121) (nI 0) (hp lp X) := by
      simp only [fxX10_takesKey, am_gd_t, am_lt_e, am_bd_s, bi_0, bi_bz, bz0, bz1, nz2, nz10, nz100, hp_gi, hp_si, ↓reduceIte, if_true, if_false, Bool.true_eq_false, Bool.false_eq_true, eq_self, reduceCtorEq, zo0, zp0_0, zp0_1, zp0_2, zp0_4, zp0_5, zp0_6, zp0_7, zp0_8, zp0_9, zp0_10, zo1, zp1_0, zp1_5, zp1_6, zp1_9, zo16, zp16_0, zp16_5, zp16_6, zp16_9, zo31, zp31_0, zp31_5, zp31_6, zp31_9, zo46, zp46_0, zp46_1, zp46_2, zo79, zp79_0, zo83, zp83_0, zp83_1, zp83_2, zo87, zp87_0, zp87_1, zo121, zp121_0, zp121_1, zp121_2, zp121_4, zp121_5, zp121_6, zp121_7, zp121_8, zp121_16, zp121_17, zp121_18, zp121_21, zp121_23, zp121_24, zp121_25, zp121_26, zp121_27, zp121_28, zp121_29, zp121_30, zp121_31, zp121_32, zp121_33, zp121_34, zp79_2, zx2, zx13, zx14, zx15, zx17, zx28, zx29, zx30, zx32, zx43, zx44, zx45, zx47, zx78, zx80, zx84, zx85, zx86, zx88, zx89, zx90, zx99, zx120, zx122, zx123, zx124, zx125, zx126, zx127, zx128, zx129, zx130, zx131, zx132, zx133, zx134, zx135, zx136, zx137, zx138, zx139, zx140, zx141, zx142, zx143, zx144, zx145, zg2, zg17, zg32, zgo3, zgo18, zgo33, zl47, zlo, zlp, zlx, zs90, zso, zsp, zsx, zt99, zto, ztp1, ztp2, ztgo, ztso, ztsp, ztsx, zc0, zi0, zc1, zi1, zc2, zi2, zc3, zi3, zc4, zi4, zc5, zi5, x12, d1]
      rfl
    have hk := key 3996
    constructor
    · intro hn'
      rw [hn'] at hk
      rw [head]; exact hk
    · intro K hK
      rw [hK] at hk
      rw [head]; exact hk
  · have d1 : (nI T.1 = (1 : Int32)) = False := eq_false (fun q => hT1 ((nI_eq (b := 1) (by omega) (by decide)).mp q))
    constructor
    · intro _
      simp only [fxX10_takesKey, am_gd_t, am_lt_e, am_bd_s, bi_0, bi_bz, bz0, bz1, nz2, nz10, nz100, hp_gi, hp_si, ↓reduceIte, if_true, if_false, Bool.true_eq_false, Bool.false_eq_true, eq_self, reduceCtorEq, zo0, zp0_0, zp0_1, zp0_2, zp0_4, zp0_5, zp0_6, zp0_7, zp0_8, zp0_9, zp0_10, zo1, zp1_0, zp1_5, zp1_6, zp1_9, zo16, zp16_0, zp16_5, zp16_6, zp16_9, zo31, zp31_0, zp31_5, zp31_6, zp31_9, zo46, zp46_0, zp46_1, zp46_2, zo79, zp79_0, zo83, zp83_0, zp83_1, zp83_2, zo87, zp87_0, zp87_1, zo121, zp121_0, zp121_1, zp121_2, zp121_4, zp121_5, zp121_6, zp121_7, zp121_8, zp121_16, zp121_17, zp121_18, zp121_21, zp121_23, zp121_24, zp121_25, zp121_26, zp121_27, zp121_28, zp121_29, zp121_30, zp121_31, zp121_32, zp121_33, zp121_34, zp79_2, zx2, zx13, zx14, zx15, zx17, zx28, zx29, zx30, zx32, zx43, zx44, zx45, zx47, zx78, zx80, zx84, zx85, zx86, zx88, zx89, zx90, zx99, zx120, zx122, zx123, zx124, zx125, zx126, zx127, zx128, zx129, zx130, zx131, zx132, zx133, zx134, zx135, zx136, zx137, zx138, zx139, zx140, zx141, zx142, zx143, zx144, zx145, zg2, zg17, zg32, zgo3, zgo18, zgo33, zl47, zlo, zlp, zlx, zs90, zso, zsp, zsx, zt99, zto, ztp1, ztp2, ztgo, ztso, ztsp, ztsx, zc0, zi0, zc1, zi1, zc2, zi2, zc3, zi3, zc4, zi4, zc5, zi5, x12, d1]
    · intro K hK
      exact absurd (kw_lt hK).2 hT1
def FRM (M Y : Mem) : Prop := (∀ z, z ≠ 121 → z ≠ 132 → z ≠ 133 → z ≠ 134 → Y z = M z) ∧ Y 121 3 = M 121 3 ∧ Y 121 9 = M 121 9 ∧ Y 121 35 = M 121 35
theorem FR_M {M Y : Mem} {K : Int32} {p : Nat} (h : FR (am_up M 121 15 K) p Y) : FRM M Y ∧ Y 121 11 = nI p ∧ Y 121 15 = K := by
  obtain ⟨N, a, tk, vl, ed, cd, am, hd, rfl, hz⟩ := h
  have e := hz 121 (by decide) (by decide) (by decide)
  refine ⟨⟨fun z z1 z2 z3 z4 => by rw [gm_o z1, hz z z2 z3 z4, am_up_ne z1], ?_, ?_, ?_⟩, gm_11 _ _ _ _ _ _ _ _ _, ?_⟩
  · rw [gm_3, e, up_nj (by decide)]
  · rw [gm_9, e, up_nj (by decide)]
  · rw [gm_35, e, up_nj (by decide)]
  · rw [gm_15, e, up_eq]
theorem q_takesE {lp n K : Nat} {b : Nat → Nat} {M : Mem} {T : Tk} {vl ed cd am hd : Int32} (hK : K < 3) (hB : TpR M b n) (hT : TkOk b n T) (hF : TF b n T vl ed) : (((dlp b n K 100).1 0 0 0 (T, [], 0)).2 = true ∧ ((dlp b n K 100).1 0 0 0 (T, [], 0)).1.1.1 = 0 → ∃ Y, fxX10_takesE (some 121) (hp lp (GM (am_up M 121 15 (nI K)) (nI T.2.2) (nI T.2.1) (nI T.1) vl ed cd am hd)) = some (1, hp lp Y) ∧ FRM M Y ∧ Y 121 15 = nI K ∧ Y 121 19 = nI ((dlp b n K 100).1 0 0 0 (T, [], 0)).1.2.1.length ∧ Y 121 20 = nI ((dlp b n K 100).1 0 0 0 (T, [], 0)).1.2.2 ∧ SR (Y 132) ((dlp b n K 100).1 0 0 0 (T, [], 0)).1.2.1) ∧ (¬ (((dlp b n K 100).1 0 0 0 (T, [], 0)).2 = true ∧ ((dlp b n K 100).1 0 0 0 (T, [], 0)).1.1.1 = 0) → ∃ Y, fxX10_takesE (some 121) (hp lp (GM (am_up M 121 15 (nI K)) (nI T.2.2) (nI T.2.1) (nI T.1) vl ed cd am hd)) = some (0, hp lp Y) ∧ FRM M Y ∧ Y 121 11 = nI ((dlp b n K 100).1 0 0 0 (T, [], 0)).1.1.2.1) := by
  have hn := hB.1
  generalize hM1 : am_up M 121 15 (nI K) = M1
  have hB1 : TpR M1 b n := by
    obtain ⟨h1, h2, h3⟩ := hB
    refine ⟨h1, ?_, ?_⟩
    · rw [← hM1, up_nj (by decide)]; exact h2
    · rw [← hM1, am_up_ne (by decide)]; exact h3
  have e15 : M1 121 15 = nI K := by rw [← hM1, up_eq]
  generalize hX : GM (am_up M1 134 0 0) (nI T.2.2) (nI T.2.1) (nI T.1) vl ed (nI 0) (nI 0) (nI 0) = X
  have hY : YM M1 b n T true [] [] 0 (fun _ => false) X := by
    refine ⟨am_up M1 134 0 0, vl, ed, hX.symm, hT, hF, trivial, trivial, fun j hj => ?_, Nat.zero_le _, Nat.zero_le _, trivial, (fun q => by cases q), (fun x hx => by cases hx), fun z _ _ z3 => am_up_ne z3⟩
    have : j = 0 := by have : opN [] = 0 := rfl; omega
    rw [this, up_eq]; rfl
  have head : fxX10_takesE (some 121) (hp lp (GM M1 (nI T.2.2) (nI T.2.1) (nI T.1) vl ed cd am hd)) = rn lp am_F true [] X := by
    have eu : am_up (GM M1 (nI T.2.2) (nI T.2.1) (nI T.1) vl ed 0 0 0) 134 0 0 = X := by rw [gm_ou (by decide), ← hX]; rfl
    simp only [fxX10_takesE, am_gd_t, am_lt_e, am_bd_s, bi_0, bi_bz, bz0, bz1, nz2, nz10, nz100, hp_gi, hp_si, ↓reduceIte, if_true, if_false, Bool.true_eq_false, Bool.false_eq_true, eq_self, reduceCtorEq, zo0, zp0_0, zp0_1, zp0_2, zp0_4, zp0_5, zp0_6, zp0_7, zp0_8, zp0_9, zp0_10, zo1, zp1_0, zp1_5, zp1_6, zp1_9, zo16, zp16_0, zp16_5, zp16_6, zp16_9, zo31, zp31_0, zp31_5, zp31_6, zp31_9, zo46, zp46_0, zp46_1, zp46_2, zo79, zp79_0, zo83, zp83_0, zp83_1, zp83_2, zo87, zp87_0, zp87_1, zo121, zp121_0, zp121_1, zp121_2, zp121_4, zp121_5, zp121_6, zp121_7, zp121_8, zp121_16, zp121_17, zp121_18, zp121_21, zp121_23, zp121_24, zp121_25, zp121_26, zp121_27, zp121_28, zp121_29, zp121_30, zp121_31, zp121_32, zp121_33, zp121_34, zp79_2, zx2, zx13, zx14, zx15, zx17, zx28, zx29, zx30, zx32, zx43, zx44, zx45, zx47, zx78, zx80, zx84, zx85, zx86, zx88, zx89, zx90, zx99, zx120, zx122, zx123, zx124, zx125, zx126, zx127, zx128, zx129, zx130, zx131, zx132, zx133, zx134, zx135, zx136, zx137, zx138, zx139, zx140, zx141, zx142, zx143, zx144, zx145, zg2, zg17, zg32, zgo3, zgo18, zgo33, zl47, zlo, zlp, zlx, zs90, zso, zsp, zsx, zt99, zto, ztp1, ztp2, ztgo, ztso, ztsp, ztsx, zc0, zi0, zc1, zi1, zc2, zi2, zc3, zi3, zc4, zi4, zc5, zi5, gm_u19, gm_u20, gm_u22, show am_in (0 : Int32) 10 = true from rfl, Bool.and_self, eu]
    rfl
  rw [head]
  obtain ⟨bOk, bFl⟩ := (thmB (lp := lp) hK e15 hB1 100).1 0 0 0 (by omega) (by omega) (by omega) (by unfold ndP; omega) (T, [], 0) [] (fun _ => false) X hY rfl rfl trivial (fun _ => rfl)
  obtain ⟨g1, -, -⟩ := (dlp_g (b := b) (n := n) (K := K) 100).1 0 0 0 (T, [], 0) hT
  generalize (dlp b n K 100).1 0 0 0 (T, [], 0) = r at *
  have hstr : r.1.1.2.1 ≤ n := by have := g1.1; have := g1.2.1; omega
  have fromFR : ∀ Y, FR M1 r.1.1.2.1 Y → FRM M Y ∧ Y 121 11 = nI r.1.1.2.1 ∧ Y 121 15 = nI K := fun Y h => by
    rw [← hM1] at h; exact FR_M h
  constructor
  · rintro ⟨hok, h0⟩
    obtain ⟨k, X1, W1, c1, t1, u1, u2, u3, u4, u5, u6, u7⟩ := bOk hok
    dsimp only at u1
    have hop : opN W1 = 0 := by have := stl_op (0 + 1) W1 c1; rw [u4] at this; exact this.symm
    have hs0 : stl 0 W1 c1 = ([], r.1.2.1) := by rw [← stl_comp (show 0 ≤ 0 + 1 by omega) W1 c1, u4]; rfl
    obtain ⟨Y, w1, w2, w3, w4, w5⟩ := st_end (lp := lp) hB1 u2 h0
    rw [hs0] at w3 w5
    obtain ⟨f1, f2, f3⟩ := fromFR Y w2
    refine ⟨Y, ?_, f1, f3, w3, w4, w5⟩
    have e1 := u3 (am_F - k - 1 + 1)
    rw [w1 (am_F - k - 1), show am_F - k - 1 + 1 + k = am_F by unfold am_F; omega, decide_eq_true hop] at e1
    exact e1
  · intro hno
    cases hok : r.2 with
    | false =>
      obtain ⟨k, Y, u1, u2, u3⟩ := bFl hok
      dsimp only at u1
      obtain ⟨f1, f2, f3⟩ := fromFR Y u2
      refine ⟨Y, ?_, f1, f2⟩
      have e1 := u3 (am_F - k - 1)
      rw [show am_F - k - 1 + k + 1 = am_F by unfold am_F; omega] at e1
      exact e1
    | true =>
      have h0 : r.1.1.1 ≠ 0 := fun q => hno ⟨hok, q⟩
      obtain ⟨k, X1, W1, c1, t1, u1, u2, u3, u4, u5, u6, u7⟩ := bOk hok
      dsimp only at u1
      have hop : opN W1 = 0 := by have := stl_op (0 + 1) W1 c1; rw [u4] at this; exact this.symm
      obtain ⟨w1, w2⟩ := fl_sign (lp := lp) hB1 u2 h0 (fun q => by omega) (by
        by_cases q : sh b r.1.1 = 0
        · exact Or.inl q
        · refine Or.inr ?_
          rcases u7 q with z | z
          · have := (sh_c q).1; omega
          · rw [hop]; exact z)
      obtain ⟨f1, f2, f3⟩ := fromFR X1 w1
      refine ⟨X1, ?_, f1, f2⟩
      have e1 := u3 (am_F - k - 1 + 1)
      rw [w2 (am_F - k - 1), show am_F - k - 1 + 1 + k = am_F by unfold am_F; omega] at e1
      exact e1
theorem q_mt {lp n : Nat} {b : Nat → Nat} {M : Mem} (hB : TpR M b n) (hx1 : ∀ k, k < 12 → M 130 k = keysL.getD k 0) (hx2 : ∀ k, k < 4 → M 131 k = nI (4 * k)) : (∀ p, rdP b n = .inl p → ∃ Y, fxX10_text (some 121) (hp lp M) = fxX10_text_b33 (some 121) (0 : Int32) (hp lp Y) ∧ Y 121 11 = nI p ∧ FRM M Y) ∧ (∀ K c o, rdP b n = .inr (K, c, o) → ∃ Y, fxX10_text (some 121) (hp lp M) = fxX10_text_b33 (some 121) (1 : Int32) (hp lp Y) ∧ Y 121 15 = nI K ∧ Y 121 19 = nI c.length ∧ Y 121 20 = nI o ∧ SR (Y 132) c ∧ FRM M Y) := by
  have hn := hB.1
  obtain ⟨vl, ed, p1, p2, p3, p4, p5⟩ := q_go (lp := lp) (s0 := 0) (a0 := 0) (e := 0) (fr := M 121 11) (tk := M 121 12) (vl := M 121 13) (ed := -1) (cd := M 121 19) (am := M 121 20) (hd := M 121 22) hB (by omega) (by
    constructor
    · intro q
      exact absurd q (nm1 (by have := st_le (b := b) (n := n) (e := 0) (by omega); omega))
    · intro q; omega)
  obtain ⟨hT1, -⟩ := nx_ok (b := b) (n := n) (T := (0, 0, 0)) (show 0 ≤ n by omega)
  have p1 : fxX10_go (some 121) (hp lp (GM M 0 (M 121 11) (M 121 12) (M 121 13) (-1) (M 121 19) (M 121 20) (M 121 22))) = some ((), hp lp (GM M (nI (nx b n (0, 0, 0)).2.2) (nI (nx b n (0, 0, 0)).2.1) (nI (nx b n (0, 0, 0)).1) vl ed (M 121 19) (M 121 20) (M 121 22))) := p1
  unfold rdP
  generalize nx b n (0, 0, 0) = T1 at *
  have hF : TF b n T1 vl ed := ⟨p2, p3, p4, fun h3 m _ hm => by rw [p5 h3]; exact nm1 (by omega)⟩
  have e10 : am_up M 121 10 0 = GM M 0 (M 121 11) (M 121 12) (M 121 13) (M 121 14) (M 121 19) (M 121 20) (M 121 22) := by
    have := gm_u10 M (M 121 10) (M 121 11) (M 121 12) (M 121 13) (M 121 14) (M 121 19) (M 121 20) (M 121 22) 0
    rw [GM_self] at this
    exact this
  obtain ⟨k1, k2⟩ := q_takesKey (lp := lp) (vl := vl) (ed := ed) (cd := M 121 19) (am := M 121 20) (hd := M 121 22) hB hT1 hx1 hx2
  have head : fxX10_text (some 121) (hp lp M) = am_bd (fxX10_takesKey (some 121) (hp lp (GM M (nI T1.2.2) (nI T1.2.1) (nI T1.1) vl ed (M 121 19) (M 121 20) (M 121 22)))) (fun r4 h5 => if r4 = 0 then (fxX10_text_b32 (some 121) h5) else (am_gd (am_ob h5 (some 121) 10) (am_bd (fxX10_takesE (some 121) h5) (fun r6 h7 => if r6 = 0 then (fxX10_text_b32 (some 121) h7) else (fxX10_text_b33 (some 121) (1 : Int32) h7))))) := by
    simp only [fxX10_text, am_gd_t, am_lt_e, am_bd_s, bi_0, bi_bz, bz0, bz1, nz2, nz10, nz100, hp_gi, hp_si, ↓reduceIte, if_true, if_false, Bool.true_eq_false, Bool.false_eq_true, eq_self, reduceCtorEq, zo0, zp0_0, zp0_1, zp0_2, zp0_4, zp0_5, zp0_6, zp0_7, zp0_8, zp0_9, zp0_10, zo1, zp1_0, zp1_5, zp1_6, zp1_9, zo16, zp16_0, zp16_5, zp16_6, zp16_9, zo31, zp31_0, zp31_5, zp31_6, zp31_9, zo46, zp46_0, zp46_1, zp46_2, zo79, zp79_0, zo83, zp83_0, zp83_1, zp83_2, zo87, zp87_0, zp87_1, zo121, zp121_0, zp121_1, zp121_2, zp121_4, zp121_5, zp121_6, zp121_7, zp121_8, zp121_16, zp121_17, zp121_18, zp121_21, zp121_23, zp121_24, zp121_25, zp121_26, zp121_27, zp121_28, zp121_29, zp121_30, zp121_31, zp121_32, zp121_33, zp121_34, zp79_2, zx2, zx13, zx14, zx15, zx17, zx28, zx29, zx30, zx32, zx43, zx44, zx45, zx47, zx78, zx80, zx84, zx85, zx86, zx88, zx89, zx90, zx99, zx120, zx122, zx123, zx124, zx125, zx126, zx127, zx128, zx129, zx130, zx131, zx132, zx133, zx134, zx135, zx136, zx137, zx138, zx139, zx140, zx141, zx142, zx143, zx144, zx145, zg2, zg17, zg32, zgo3, zgo18, zgo33, zl47, zlo, zlp, zlx, zs90, zso, zsp, zsx, zt99, zto, ztp1, ztp2, ztgo, ztso, ztsp, ztsx, zc0, zi0, zc1, zi1, zc2, zi2, zc3, zi3, zc4, zi4, zc5, zi5, e10, gm_u14, p1]
  cases hk : kwT b T1 with
  | none =>
    dsimp only
    constructor
    · intro p hp'
      have : p = T1.2.1 := (Sum.inl.inj hp').symm
      subst this
      refine ⟨GM M (nI T1.2.2) (nI T1.2.1) (nI T1.1) vl ed (M 121 19) (M 121 20) (M 121 22), ?_, gm_11 _ _ _ _ _ _ _ _ _, fun z z1 z2 z3 z4 => gm_o z1, gm_3 _ _ _ _ _ _ _ _ _, gm_9 _ _ _ _ _ _ _ _ _, gm_35 _ _ _ _ _ _ _ _ _⟩
      rw [head, k1 hk]
      simp only [am_bd_s, ↓reduceIte, if_true, if_false, Bool.true_eq_false, Bool.false_eq_true, eq_self, reduceCtorEq, fxX10_text_b32]
    · intro K c o hp'; cases hp'
  | some K =>
    dsimp only
    obtain ⟨hK, hT11⟩ := kw_lt hk
    obtain ⟨g1, g2⟩ := nx_go hT1 (by omega)
    have hB1 : TpR (am_up M 121 15 (nI K)) b n := by
      obtain ⟨h1, h2, h3⟩ := hB
      refine ⟨h1, ?_, ?_⟩
      · rw [up_nj (by decide)]; exact h2
      · rw [am_up_ne (by decide)]; exact h3
    obtain ⟨vl2, ed2, q1, q2⟩ := go_T (lp := lp) (N := am_up M 121 15 (nI K)) (vl := vl) (ed := ed) (cd := M 121 19) (am := M 121 20) (hd := M 121 22) hB1 hT1 (Or.inl hT11) hF
    obtain ⟨eOk, eNo⟩ := q_takesE (lp := lp) (cd := M 121 19) (am := M 121 20) (hd := M 121 22) hK hB g1 q2
    have head2 : fxX10_text (some 121) (hp lp M) = am_bd (fxX10_takesE (some 121) (hp lp (GM (am_up M 121 15 (nI K)) (nI (nx b n T1).2.2) (nI (nx b n T1).2.1) (nI (nx b n T1).1) vl2 ed2 (M 121 19) (M 121 20) (M 121 22)))) (fun r6 h7 => if r6 = 0 then (fxX10_text_b32 (some 121) h7) else (fxX10_text_b33 (some 121) (1 : Int32) h7)) := by
      rw [head, k2 K hk, q1]
      simp only [am_bd_s, one0, ↓reduceIte, if_true, if_false, Bool.true_eq_false, Bool.false_eq_true, eq_self, reduceCtorEq, zo121, am_gd_t]
    constructor
    · intro p hp'
      split at hp'
      · cases hp'
      · next hc =>
        have hpe := (Sum.inl.inj hp').symm
        obtain ⟨Y, y1, y2, y3⟩ := eNo hc
        refine ⟨Y, ?_, by rw [hpe]; exact y3, y2⟩
        rw [head2, y1]
        simp only [am_bd_s, ↓reduceIte, if_true, if_false, Bool.true_eq_false, Bool.false_eq_true, eq_self, reduceCtorEq, fxX10_text_b32]
    · intro K' c o hp'
      split at hp'
      · next hc =>
        have he := Sum.inr.inj hp'
        have hK' : K = K' := congrArg Prod.fst he
        have hco := congrArg Prod.snd he
        dsimp only at hco
        subst hK'
        obtain ⟨Y, y1, y2, y3, y4, y5, y6⟩ := eOk hc
        rw [hco] at y4 y5 y6
        refine ⟨Y, ?_, y3, y4, y5, y6, y2⟩
        rw [head2, y1]
        simp only [am_bd_s, one0, ↓reduceIte, if_true, if_false, Bool.true_eq_false, Bool.false_eq_true, eq_self, reduceCtorEq]
      · cases hp'
