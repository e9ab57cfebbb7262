/-! ===== the reference's days ===== -/
/-- an array that the reference can work on; the class's laws bear it out -/
def MO (M0 : Mem) (g : Nat → Int32) : Prop := Vs g ∧ ∀ t, t < cn (g 5) → TR M0 t g
theorem MO_lo {M0 : Mem} {g g' : Nat → Int32} (h : ∀ k, k ≠ 0 → (k < 16 ∨ 76 ≤ k) → g' k = g k) (hm : MO M0 g) : MO M0 g' := by
  obtain ⟨hv, hT⟩ := hm
  refine ⟨?_, fun t ht => ?_⟩
  · unfold Vs
    rw [h 1 (by decide) (by decide), h 2 (by decide) (by decide), h 3 (by decide) (by decide), h 4 (by decide) (by decide), h 5 (by decide) (by decide)]
    exact hv
  · rw [h 5 (by decide) (by decide)] at ht
    exact TR_g (fun k hk => h k (by omega) (by omega)) (hT t ht)
theorem q_wearsBy {lp i : Nat} {M0 M : Mem} (hm : MO M0 (M 122)) (hi : i < 10) (x : Int32) : ∃ M', fxX10_wearsBy (some 121) (nI i) x (hp lp M) = some (gainS (M 122) (M 122 (16 + 6 * i + 3)) x, hp lp M') ∧ ∀ w, w ≠ 135 → w ≠ 136 → M' w = M w := by
  obtain ⟨hv, hT⟩ := hm
  have h14 := hv.t.1
  generalize hP : M 122 (16 + 6 * i + 3) = P
  have ho : ∀ M' : Mem, M' 122 = M 122 → fxX10_of (some 121) (nI i) 3 (hp lp M') = some (P, hp lp M') := fun M' e => by rw [q_of hi (show 3 < 6 by decide) (3 : Int32) rfl, e, hP]
  generalize hM1 : am_up (am_up M 136 0 x) 136 1 P = M1
  have r1 : ∀ w, w ≠ 136 → M1 w = M w := fun w hw => by rw [← hM1, am_up_ne hw, am_up_ne hw]
  have ho1 := ho (am_up M 136 0 x) (am_up_ne (by decide))
  rcases lastK_c (M 122) 1 (cn (M 122 5)) with h | ⟨t, ht, h⟩
  · refine ⟨M1, ?_, fun w _ hw => r1 w hw⟩
    unfold gainS
    rw [h, if_pos rfl]
    simp only [fxX10_wearsBy, am_gd_t, am_lt_e, am_bd_s, bi_0, bi_bz, bz0, bz1, nz2, nz10, nz100, hp_gi, hp_si, ↓reduceIte, if_true, if_false, Bool.true_eq_false, Bool.false_eq_true, eq_self, reduceCtorEq, zo0, zp0_0, zp0_1, zp0_2, zp0_4, zp0_5, zp0_6, zp0_7, zp0_8, zp0_9, zp0_10, zo1, zp1_0, zp1_5, zp1_6, zp1_9, zo16, zp16_0, zp16_5, zp16_6, zp16_9, zo31, zp31_0, zp31_5, zp31_6, zp31_9, zo46, zp46_0, zp46_1, zp46_2, zo79, zp79_0, zo83, zp83_0, zp83_1, zp83_2, zo87, zp87_0, zp87_1, zo121, zp121_0, zp121_1, zp121_2, zp121_4, zp121_5, zp121_6, zp121_7, zp121_8, zp121_16, zp121_17, zp121_18, zp121_21, zp121_23, zp121_24, zp121_25, zp121_26, zp121_27, zp121_28, zp121_29, zp121_30, zp121_31, zp121_32, zp121_33, zp121_34, zp79_2, zx2, zx13, zx14, zx15, zx17, zx28, zx29, zx30, zx32, zx43, zx44, zx45, zx47, zx78, zx80, zx84, zx85, zx86, zx88, zx89, zx90, zx99, zx120, zx122, zx123, zx124, zx125, zx126, zx127, zx128, zx129, zx130, zx131, zx132, zx133, zx134, zx135, zx136, zx137, zx138, zx139, zx140, zx141, zx142, zx143, zx144, zx145, zg2, zg17, zg32, zgo3, zgo18, zgo33, zl47, zlo, zlp, zlx, zs90, zso, zsp, zsx, zt99, zto, ztp1, ztp2, ztgo, ztso, ztsp, ztsx, zc0, zi0, zc1, zi1, zc2, zi2, zc3, zi3, zc4, zi4, zc5, zi5, q_counts hv, h, show am_in (0 : Int32) 4 = true from rfl, show am_in (1 : Int32) 4 = true from rfl, ho1, hM1, m1ge, nz4]
  · obtain ⟨M', q1, q2⟩ := q_works (lp := lp) (M0 := M0) (M := M1) (show t < 14 by omega) (by rw [r1 122 (by decide)]; exact hT t ht)
    refine ⟨M', ?_, fun w h1 h2 => by rw [q2 w h1, r1 w h2]⟩
    have hf : evalS (M 122) t (M1 136) = evalS (M 122) t (f3 x P 0) := by
      refine eval_congr (hT t ht) fun K hK i hi' => ?_
      have hk2 := lastK_key (by omega) h (by omega)
      rw [hk2] at hK
      have hK2 : K ≠ 0 := by rintro rfl; revert hK; decide
      rw [if_neg hK2] at hi'
      rw [← hM1]
      rcases (show i = 0 ∨ i = 1 by omega) with rfl | rfl
      · rw [up_nj (by decide), up_eq]; rfl
      · rw [up_eq]; rfl
    rw [r1 122 (by decide), hf] at q1
    unfold gainS
    rw [h, if_neg (by rw [nI_nm1 (by omega)]; exact not_false), cn_nI (by omega)]
    have h0 : ((0 : Int32) ≤ nI t) = True := eq_true (nI_pos' (by omega))
    simp only [fxX10_wearsBy, am_gd_t, am_lt_e, am_bd_s, bi_0, bi_bz, bz0, bz1, nz2, nz10, nz100, hp_gi, hp_si, ↓reduceIte, if_true, if_false, Bool.true_eq_false, Bool.false_eq_true, eq_self, reduceCtorEq, zo0, zp0_0, zp0_1, zp0_2, zp0_4, zp0_5, zp0_6, zp0_7, zp0_8, zp0_9, zp0_10, zo1, zp1_0, zp1_5, zp1_6, zp1_9, zo16, zp16_0, zp16_5, zp16_6, zp16_9, zo31, zp31_0, zp31_5, zp31_6, zp31_9, zo46, zp46_0, zp46_1, zp46_2, zo79, zp79_0, zo83, zp83_0, zp83_1, zp83_2, zo87, zp87_0, zp87_1, zo121, zp121_0, zp121_1, zp121_2, zp121_4, zp121_5, zp121_6, zp121_7, zp121_8, zp121_16, zp121_17, zp121_18, zp121_21, zp121_23, zp121_24, zp121_25, zp121_26, zp121_27, zp121_28, zp121_29, zp121_30, zp121_31, zp121_32, zp121_33, zp121_34, zp79_2, zx2, zx13, zx14, zx15, zx17, zx28, zx29, zx30, zx32, zx43, zx44, zx45, zx47, zx78, zx80, zx84, zx85, zx86, zx88, zx89, zx90, zx99, zx120, zx122, zx123, zx124, zx125, zx126, zx127, zx128, zx129, zx130, zx131, zx132, zx133, zx134, zx135, zx136, zx137, zx138, zx139, zx140, zx141, zx142, zx143, zx144, zx145, zg2, zg17, zg32, zgo3, zgo18, zgo33, zl47, zlo, zlp, zlx, zs90, zso, zsp, zsx, zt99, zto, ztp1, ztp2, ztgo, ztso, ztsp, ztsx, zc0, zi0, zc1, zi1, zc2, zi2, zc3, zi3, zc4, zi4, zc5, zi5, q_counts hv, h, show am_in (0 : Int32) 4 = true from rfl, show am_in (1 : Int32) 4 = true from rfl, ho1, hM1, h0, q1, q_mwithin]
theorem day_m {lp n : Nat} {M0 : Mem} {home : Int32} (hn : n ≤ 10) : ∀ k i fuel acc (M : Mem), MO M0 (M 122) → M 122 1 = nI n → i + k = n → k < fuel → ∃ M', fxX10_day_b4 fuel (some 121) home acc (nI i) (hp lp M) = some (acc + dayL home k i (M 122), hp lp M') ∧ M' 122 = dayG home k i (M 122) ∧ ∀ w, w ≠ 122 → w ≠ 135 → w ≠ 136 → M' w = M w := by
  intro k
  induction k with
  | zero =>
    intro i fuel acc M hm e1 hi hf
    obtain ⟨fuel, rfl⟩ : ∃ f, fuel = f + 1 := ⟨fuel - 1, by omega⟩
    obtain rfl : i = n := by omega
    refine ⟨am_up M 122 2 (M 122 2 + 1), ?_, up_row _ _ _ _, fun w hw _ _ => am_up_ne hw⟩
    simp (disch := omega) only [fxX10_day_b4, am_gd_t, am_lt_e, am_bd_s, bi_0, bi_bz, bz0, bz1, nz2, nz10, nz100, hp_gi, hp_si, ↓reduceIte, if_true, if_false, Bool.true_eq_false, Bool.false_eq_true, eq_self, reduceCtorEq, zo0, zp0_0, zp0_1, zp0_2, zp0_4, zp0_5, zp0_6, zp0_7, zp0_8, zp0_9, zp0_10, zo1, zp1_0, zp1_5, zp1_6, zp1_9, zo16, zp16_0, zp16_5, zp16_6, zp16_9, zo31, zp31_0, zp31_5, zp31_6, zp31_9, zo46, zp46_0, zp46_1, zp46_2, zo79, zp79_0, zo83, zp83_0, zp83_1, zp83_2, zo87, zp87_0, zp87_1, zo121, zp121_0, zp121_1, zp121_2, zp121_4, zp121_5, zp121_6, zp121_7, zp121_8, zp121_16, zp121_17, zp121_18, zp121_21, zp121_23, zp121_24, zp121_25, zp121_26, zp121_27, zp121_28, zp121_29, zp121_30, zp121_31, zp121_32, zp121_33, zp121_34, zp79_2, zx2, zx13, zx14, zx15, zx17, zx28, zx29, zx30, zx32, zx43, zx44, zx45, zx47, zx78, zx80, zx84, zx85, zx86, zx88, zx89, zx90, zx99, zx120, zx122, zx123, zx124, zx125, zx126, zx127, zx128, zx129, zx130, zx131, zx132, zx133, zx134, zx135, zx136, zx137, zx138, zx139, zx140, zx141, zx142, zx143, zx144, zx145, zg2, zg17, zg32, zgo3, zgo18, zgo33, zl47, zlo, zlp, zlx, zs90, zso, zsp, zsx, zt99, zto, ztp1, ztp2, ztgo, ztso, ztsp, ztsx, zc0, zi0, zc1, zi1, zc2, zi2, zc3, zi3, zc4, zi4, zc5, zi5, e1, zle', dayL, Int32.add_zero]
  | succ k ih =>
    intro i fuel acc M hm e1 hi hf
    obtain ⟨fuel, rfl⟩ : ∃ f, fuel = f + 1 := ⟨fuel - 1, by omega⟩
    have hgt : (nI n ≤ nI i) = False := zle (by omega) (by omega)
    have o5 := q_of (lp := lp) (M := M) (show i < 10 by omega) (show 5 < 6 by decide) (5 : Int32) rfl
    unfold dayG dayL
    by_cases hs : nI i = home ∨ ¬ M 122 (16 + 6 * i + 5) = 0
    · rw [if_pos hs, if_pos hs]
      obtain ⟨M', q1, q2, q3⟩ := ih (i + 1) fuel acc M hm e1 (by omega) (by omega)
      refine ⟨M', ?_, q2, q3⟩
      by_cases hh : nI i = home
      · have hgt' : (nI n ≤ home) = False := by rw [← hh]; exact hgt
        simp (disch := omega) only [fxX10_day_b4, fxX10_day_b115, am_gd_t, am_lt_e, am_bd_s, bi_0, bi_bz, bz0, bz1, nz2, nz10, nz100, hp_gi, hp_si, ↓reduceIte, if_true, if_false, Bool.true_eq_false, Bool.false_eq_true, eq_self, reduceCtorEq, zo0, zp0_0, zp0_1, zp0_2, zp0_4, zp0_5, zp0_6, zp0_7, zp0_8, zp0_9, zp0_10, zo1, zp1_0, zp1_5, zp1_6, zp1_9, zo16, zp16_0, zp16_5, zp16_6, zp16_9, zo31, zp31_0, zp31_5, zp31_6, zp31_9, zo46, zp46_0, zp46_1, zp46_2, zo79, zp79_0, zo83, zp83_0, zp83_1, zp83_2, zo87, zp87_0, zp87_1, zo121, zp121_0, zp121_1, zp121_2, zp121_4, zp121_5, zp121_6, zp121_7, zp121_8, zp121_16, zp121_17, zp121_18, zp121_21, zp121_23, zp121_24, zp121_25, zp121_26, zp121_27, zp121_28, zp121_29, zp121_30, zp121_31, zp121_32, zp121_33, zp121_34, zp79_2, zx2, zx13, zx14, zx15, zx17, zx28, zx29, zx30, zx32, zx43, zx44, zx45, zx47, zx78, zx80, zx84, zx85, zx86, zx88, zx89, zx90, zx99, zx120, zx122, zx123, zx124, zx125, zx126, zx127, zx128, zx129, zx130, zx131, zx132, zx133, zx134, zx135, zx136, zx137, zx138, zx139, zx140, zx141, zx142, zx143, zx144, zx145, zg2, zg17, zg32, zgo3, zgo18, zgo33, zl47, zlo, zlp, zlx, zs90, zso, zsp, zsx, zt99, zto, ztp1, ztp2, ztgo, ztso, ztsp, ztsx, zc0, zi0, zc1, zi1, zc2, zi2, zc3, zi3, zc4, zi4, zc5, zi5, e1, hgt', hh]
        rw [← hh, nI_1]
        rw [← hh] at q1
        exact q1
      · have hs' := hs.resolve_left hh
        simp (disch := omega) only [fxX10_day_b4, fxX10_day_b115, am_gd_t, am_lt_e, am_bd_s, bi_0, bi_bz, bz0, bz1, nz2, nz10, nz100, hp_gi, hp_si, ↓reduceIte, if_true, if_false, Bool.true_eq_false, Bool.false_eq_true, eq_self, reduceCtorEq, zo0, zp0_0, zp0_1, zp0_2, zp0_4, zp0_5, zp0_6, zp0_7, zp0_8, zp0_9, zp0_10, zo1, zp1_0, zp1_5, zp1_6, zp1_9, zo16, zp16_0, zp16_5, zp16_6, zp16_9, zo31, zp31_0, zp31_5, zp31_6, zp31_9, zo46, zp46_0, zp46_1, zp46_2, zo79, zp79_0, zo83, zp83_0, zp83_1, zp83_2, zo87, zp87_0, zp87_1, zo121, zp121_0, zp121_1, zp121_2, zp121_4, zp121_5, zp121_6, zp121_7, zp121_8, zp121_16, zp121_17, zp121_18, zp121_21, zp121_23, zp121_24, zp121_25, zp121_26, zp121_27, zp121_28, zp121_29, zp121_30, zp121_31, zp121_32, zp121_33, zp121_34, zp79_2, zx2, zx13, zx14, zx15, zx17, zx28, zx29, zx30, zx32, zx43, zx44, zx45, zx47, zx78, zx80, zx84, zx85, zx86, zx88, zx89, zx90, zx99, zx120, zx122, zx123, zx124, zx125, zx126, zx127, zx128, zx129, zx130, zx131, zx132, zx133, zx134, zx135, zx136, zx137, zx138, zx139, zx140, zx141, zx142, zx143, zx144, zx145, zg2, zg17, zg32, zgo3, zgo18, zgo33, zl47, zlo, zlp, zlx, zs90, zso, zsp, zsx, zt99, zto, ztp1, ztp2, ztgo, ztso, ztsp, ztsx, zc0, zi0, zc1, zi1, zc2, zi2, zc3, zi3, zc4, zi4, zc5, zi5, zin, zcl, nI_1, Bool.and_self, Bool.true_and, Bool.and_true, e1, hgt, hh, o5, hs']
        exact q1
    · rw [if_neg hs, if_neg hs]
      have hh : ¬ nI i = home := fun q => hs (Or.inl q)
      have hz : M 122 (16 + 6 * i + 5) = 0 := Classical.byContradiction fun q => hs (Or.inr q)
      generalize hM1 : am_up M 122 0 (lcg (M 122 0)) = M1
      have r1 : ∀ w, w ≠ 122 → M1 w = M w := fun w hw => by rw [← hM1, am_up_ne hw]
      have g1 : M1 122 = up1 (M 122) 0 (lcg (M 122 0)) := by rw [← hM1, up_row]
      have hm1 : MO M0 (M1 122) := by rw [g1]; exact MO_lo (fun k h0 _ => up1_ne h0) hm
      obtain ⟨M2, p1, p2⟩ := q_wearsBy (lp := lp) hm1 (show i < 10 by omega) (am_rem (drw (lcg (M 122 0))) 10)
      have g2 : M2 122 = up1 (M 122) 0 (lcg (M 122 0)) := by rw [p2 122 (by decide) (by decide), g1]
      have hgn : gainS (M1 122) (M1 122 (16 + 6 * i + 3)) (am_rem (drw (lcg (M 122 0))) 10) = gainS (M 122) (M 122 (16 + 6 * i + 3)) (am_rem (drw (lcg (M 122 0))) 10) := by
        rw [g1, gainS_g (fun k hk => up1_ne (by omega)) (up1_ne (by decide)), up1_ne (by omega)]
      rw [hgn] at p1
      generalize hM3 : am_up (am_up (am_up M2 122 (16 + 6 * i + 4) (woW (M 122) i)) 122 0 (lcg (lcg (M 122 0)))) 122 (16 + 6 * i + 5) (woL (M 122)) = M3
      have g3 : M3 122 = wo (M 122) i := by
        rw [← hM3, up_row, up_row, up_row, g2]
        unfold wo
        congr 1
        funext j
        unfold up1
        by_cases h1 : j = 0
        · subst h1; simp
        · by_cases h2 : j = 16 + 6 * i + 4 <;> simp [h1, h2]
      have r3 : ∀ w, w ≠ 122 → w ≠ 135 → w ≠ 136 → M3 w = M w := fun w h1 h2 h3 => by rw [← hM3, am_up_ne h1, am_up_ne h1, am_up_ne h1, p2 w h2 h3, r1 w h1]
      obtain ⟨M', q1, q2, q3⟩ := ih (i + 1) fuel (acc + woL (M 122)) M3 (by rw [g3]; exact MO_lo (fun k h0 h => wo_lo h0 h (by omega)) hm) (by rw [g3, wo_lo (by decide) (by omega) (by omega)]; exact e1) (by omega) (by omega)
      rw [g3] at q1 q2
      refine ⟨M', ?_, q2, fun w h1 h2 h3 => by rw [q3 w h1 h2 h3, r3 w h1 h2 h3]⟩
      have o4 := q_of (lp := lp) (M := M1) (show i < 10 by omega) (show 4 < 6 by decide) (4 : Int32) rfl
      have e4 : M1 122 (16 + 6 * i + 4) = M 122 (16 + 6 * i + 4) := by rw [g1, up1_ne (by omega)]
      rw [e4] at o4
      have hdr : fxX10_draw (some 121) (hp lp M) = some (drw (lcg (M 122 0)), hp lp M1) := by rw [q_mdraw, hM1]
      generalize hMa : am_up M2 122 (16 + 6 * i + 4) (woW (M 122) i) = Ma at hM3
      have ea0 : Ma 122 0 = lcg (M 122 0) := by rw [← hMa, up_nj (by omega), g2, up1_eq]
      generalize hMb : am_up Ma 122 0 (lcg (lcg (M 122 0))) = Mb at hM3
      have eb3 : Mb 122 3 = M 122 3 := by rw [← hMb, up_nj (by decide), ← hMa, up_nj (by omega), g2, up1_ne (by decide)]
      have hdr2 : fxX10_draw (some 121) (hp lp Ma) = some (drw (lcg (lcg (M 122 0))), hp lp Mb) := by rw [q_mdraw, ea0, hMb]
      have hwW : clampS (M 122 (16 + 6 * i + 4) + gainS (M 122) (M 122 (16 + 6 * i + 3)) (am_rem (drw (lcg (M 122 0))) 10)) 0 99 = woW (M 122) i := rfl
      have hput := q_put (lp := lp) (M := M2) (show i < 10 by omega) (show 4 < 6 by decide) (4 : Int32) (woW (M 122) i) rfl
      rw [hMa] at hput
      have hput2 := q_put (lp := lp) (M := Mb) (show i < 10 by omega) (show 5 < 6 by decide) (5 : Int32) (woL (M 122)) rfl
      rw [hM3] at hput2
      have tail : ∀ s, s = woL (M 122) → fxX10_day_b84 (fxX10_day_b4 fuel) (some 121) home acc (nI i) s (hp lp Mb) = some (acc + (woL (M 122) + dayL home k (i + 1) (wo (M 122) i)), hp lp M') := by
        intro s hs
        subst hs
        rw [← Int32.add_assoc]
        rcases woL_c (M 122) with hl | hl
        · rw [hl] at hput2 q1 ⊢
          simp only [fxX10_day_b84, fxX10_day_b99, fxX10_day_b113, fxX10_day_b115, am_gd_t, am_lt_e, am_bd_s, bi_0, bi_bz, bz0, bz1, nz2, nz10, nz100, hp_gi, hp_si, ↓reduceIte, if_true, if_false, Bool.true_eq_false, Bool.false_eq_true, eq_self, reduceCtorEq, zo0, zp0_0, zp0_1, zp0_2, zp0_4, zp0_5, zp0_6, zp0_7, zp0_8, zp0_9, zp0_10, zo1, zp1_0, zp1_5, zp1_6, zp1_9, zo16, zp16_0, zp16_5, zp16_6, zp16_9, zo31, zp31_0, zp31_5, zp31_6, zp31_9, zo46, zp46_0, zp46_1, zp46_2, zo79, zp79_0, zo83, zp83_0, zp83_1, zp83_2, zo87, zp87_0, zp87_1, zo121, zp121_0, zp121_1, zp121_2, zp121_4, zp121_5, zp121_6, zp121_7, zp121_8, zp121_16, zp121_17, zp121_18, zp121_21, zp121_23, zp121_24, zp121_25, zp121_26, zp121_27, zp121_28, zp121_29, zp121_30, zp121_31, zp121_32, zp121_33, zp121_34, zp79_2, zx2, zx13, zx14, zx15, zx17, zx28, zx29, zx30, zx32, zx43, zx44, zx45, zx47, zx78, zx80, zx84, zx85, zx86, zx88, zx89, zx90, zx99, zx120, zx122, zx123, zx124, zx125, zx126, zx127, zx128, zx129, zx130, zx131, zx132, zx133, zx134, zx135, zx136, zx137, zx138, zx139, zx140, zx141, zx142, zx143, zx144, zx145, zg2, zg17, zg32, zgo3, zgo18, zgo33, zl47, zlo, zlp, zlx, zs90, zso, zsp, zsx, zt99, zto, ztp1, ztp2, ztgo, ztso, ztsp, ztsx, zc0, zi0, zc1, zi1, zc2, zi2, zc3, zi3, zc4, zi4, zc5, zi5, hput2, nI_1]
          exact q1
        · rw [hl] at hput2 q1 ⊢
          simp only [fxX10_day_b84, fxX10_day_b99, fxX10_day_b113, fxX10_day_b115, am_gd_t, am_lt_e, am_bd_s, bi_0, bi_bz, bz0, bz1, nz2, nz10, nz100, hp_gi, hp_si, ↓reduceIte, if_true, if_false, Bool.true_eq_false, Bool.false_eq_true, eq_self, reduceCtorEq, zo0, zp0_0, zp0_1, zp0_2, zp0_4, zp0_5, zp0_6, zp0_7, zp0_8, zp0_9, zp0_10, zo1, zp1_0, zp1_5, zp1_6, zp1_9, zo16, zp16_0, zp16_5, zp16_6, zp16_9, zo31, zp31_0, zp31_5, zp31_6, zp31_9, zo46, zp46_0, zp46_1, zp46_2, zo79, zp79_0, zo83, zp83_0, zp83_1, zp83_2, zo87, zp87_0, zp87_1, zo121, zp121_0, zp121_1, zp121_2, zp121_4, zp121_5, zp121_6, zp121_7, zp121_8, zp121_16, zp121_17, zp121_18, zp121_21, zp121_23, zp121_24, zp121_25, zp121_26, zp121_27, zp121_28, zp121_29, zp121_30, zp121_31, zp121_32, zp121_33, zp121_34, zp79_2, zx2, zx13, zx14, zx15, zx17, zx28, zx29, zx30, zx32, zx43, zx44, zx45, zx47, zx78, zx80, zx84, zx85, zx86, zx88, zx89, zx90, zx99, zx120, zx122, zx123, zx124, zx125, zx126, zx127, zx128, zx129, zx130, zx131, zx132, zx133, zx134, zx135, zx136, zx137, zx138, zx139, zx140, zx141, zx142, zx143, zx144, zx145, zg2, zg17, zg32, zgo3, zgo18, zgo33, zl47, zlo, zlp, zlx, zs90, zso, zsp, zsx, zt99, zto, ztp1, ztp2, ztgo, ztso, ztsp, ztsx, zc0, zi0, zc1, zi1, zc2, zi2, zc3, zi3, zc4, zi4, zc5, zi5, hput2, nI_1, one0]
          exact q1
      simp (disch := omega) only [fxX10_day_b4, am_gd_t, am_lt_e, am_bd_s, bi_0, bi_bz, bz0, bz1, nz2, nz10, nz100, hp_gi, hp_si, ↓reduceIte, if_true, if_false, Bool.true_eq_false, Bool.false_eq_true, eq_self, reduceCtorEq, zo0, zp0_0, zp0_1, zp0_2, zp0_4, zp0_5, zp0_6, zp0_7, zp0_8, zp0_9, zp0_10, zo1, zp1_0, zp1_5, zp1_6, zp1_9, zo16, zp16_0, zp16_5, zp16_6, zp16_9, zo31, zp31_0, zp31_5, zp31_6, zp31_9, zo46, zp46_0, zp46_1, zp46_2, zo79, zp79_0, zo83, zp83_0, zp83_1, zp83_2, zo87, zp87_0, zp87_1, zo121, zp121_0, zp121_1, zp121_2, zp121_4, zp121_5, zp121_6, zp121_7, zp121_8, zp121_16, zp121_17, zp121_18, zp121_21, zp121_23, zp121_24, zp121_25, zp121_26, zp121_27, zp121_28, zp121_29, zp121_30, zp121_31, zp121_32, zp121_33, zp121_34, zp79_2, zx2, zx13, zx14, zx15, zx17, zx28, zx29, zx30, zx32, zx43, zx44, zx45, zx47, zx78, zx80, zx84, zx85, zx86, zx88, zx89, zx90, zx99, zx120, zx122, zx123, zx124, zx125, zx126, zx127, zx128, zx129, zx130, zx131, zx132, zx133, zx134, zx135, zx136, zx137, zx138, zx139, zx140, zx141, zx142, zx143, zx144, zx145, zg2, zg17, zg32, zgo3, zgo18, zgo33, zl47, zlo, zlp, zlx, zs90, zso, zsp, zsx, zt99, zto, ztp1, ztp2, ztgo, ztso, ztsp, ztsx, zc0, zi0, zc1, zi1, zc2, zi2, zc3, zi3, zc4, zi4, zc5, zi5, e1, hgt, hh, o5, hz, hdr, o4, p1, q_mwithin, hwW, hput, hdr2, eb3]
      by_cases hl : M 122 3 ≤ am_rem (drw (lcg (lcg (M 122 0)))) 100
      · rw [if_pos hl]; exact tail 0 (by unfold woL; rw [if_pos hl])
      · rw [if_neg hl]; exact tail 1 (by unfold woL; rw [if_neg hl])
theorem q_goesOn {lp : Nat} {M0 : Mem} {home : Int32} (d : Nat) (hd2 : d ≤ 3000) (M : Mem) (hm : MO M0 (M 122)) (hd : cn (M 122 2) + d ≤ 20000) : ∃ M', fxX10_goesOn (some 121) (nI d) home (hp lp M) = some (liveL home d (M 122), hp lp M') ∧ M' 122 = liveG home d (M 122) ∧ ∀ w, w ≠ 122 → w ≠ 135 → w ≠ 136 → M' w = M w := by
  have L : ∀ m l fuel acc (M : Mem), MO M0 (M 122) → l + m = d → m < fuel → cn (M 122 2) + m ≤ 20000 → ∃ M', fxX10_goesOn_b5 fuel (some 121) (nI d) home acc (nI l) (hp lp M) = some (acc + liveL home m (M 122), hp lp M') ∧ M' 122 = liveG home m (M 122) ∧ ∀ w, w ≠ 122 → w ≠ 135 → w ≠ 136 → M' w = M w := by
    intro m
    induction m with
    | zero =>
      intro l fuel acc M hm hl hf hd
      obtain ⟨fuel, rfl⟩ : ∃ f, fuel = f + 1 := ⟨fuel - 1, by omega⟩
      obtain rfl : l = d := by omega
      refine ⟨M, ?_, rfl, fun _ _ _ _ => rfl⟩
      simp (disch := omega) only [fxX10_goesOn_b5, zle', ↓reduceIte, if_true, if_false, Bool.true_eq_false, Bool.false_eq_true, eq_self, reduceCtorEq, liveL, Int32.add_zero]
    | succ m ih =>
      intro l fuel acc M hm hl hf hd
      obtain ⟨fuel, rfl⟩ : ∃ f, fuel = f + 1 := ⟨fuel - 1, by omega⟩
      obtain ⟨hn, en⟩ := hm.1.n
      obtain ⟨m2, hm2, em2⟩ := hm.1.2.1
      obtain ⟨M1, p1, p2, p3⟩ := day_m (lp := lp) (home := home) hn (cn (M 122 1)) 0 am_F 0 M hm en (by omega) (by unfold am_F; omega)
      rw [em2, cn_nI (by omega)] at hd
      have e2 : M1 122 2 = nI (m2 + 1) := by rw [p2, dayG_2 _ _ _ (by omega), em2, nI_1]
      have hm1 : MO M0 (M1 122) := by
        obtain ⟨⟨v1, v2, v3, v4, v5⟩, hT⟩ := hm
        have e := fun (z : Nat) (h0 : z ≠ 0) (h2 : z ≠ 2) (h : z < 16 ∨ 76 ≤ z) => (show M1 122 z = M 122 z by rw [p2]; exact dayG_lo _ _ _ _ h0 h2 h (by omega))
        refine ⟨⟨?_, ⟨m2 + 1, by omega, e2⟩, ?_, ?_, ?_⟩, fun t ht => ?_⟩
        · rw [e 1 (by decide) (by decide) (by decide)]; exact v1
        · rw [e 3 (by decide) (by decide) (by decide)]; exact v3
        · rw [e 4 (by decide) (by decide) (by decide)]; exact v4
        · rw [e 5 (by decide) (by decide) (by decide)]; exact v5
        · rw [e 5 (by decide) (by decide) (by decide)] at ht
          exact TR_g (fun k hk => e k (by omega) (by omega) (by omega)) (hT t ht)
      obtain ⟨M', q1, q2, q3⟩ := ih (l + 1) fuel (acc + dayL home (cn (M 122 1)) 0 (M 122)) M1 hm1 (by omega) (by omega) (by rw [e2, cn_nI (by omega)]; omega)
      rw [p2] at q1 q2
      refine ⟨M', ?_, q2, fun w h1 h2 h3 => by rw [q3 w h1 h2 h3, p3 w h1 h2 h3]⟩
      have hday : fxX10_day (some 121) home (hp lp M) = some (dayL home (cn (M 122 1)) 0 (M 122), hp lp M1) := by
        simp only [fxX10_day, am_gd_t, am_lt_e, am_bd_s, bi_0, bi_bz, bz0, bz1, nz2, nz10, nz100, hp_gi, hp_si]
        rw [Int32.zero_add] at p1
        exact p1
      simp (disch := omega) only [fxX10_goesOn_b5, zle, ↓reduceIte, if_true, if_false, Bool.true_eq_false, Bool.false_eq_true, eq_self, reduceCtorEq, am_gd_t, am_lt_e, am_bd_s, bi_0, bi_bz, bz0, bz1, nz2, nz10, nz100, hp_gi, hp_si, zo0, zp0_0, zp0_1, zp0_2, zp0_4, zp0_5, zp0_6, zp0_7, zp0_8, zp0_9, zp0_10, zo1, zp1_0, zp1_5, zp1_6, zp1_9, zo16, zp16_0, zp16_5, zp16_6, zp16_9, zo31, zp31_0, zp31_5, zp31_6, zp31_9, zo46, zp46_0, zp46_1, zp46_2, zo79, zp79_0, zo83, zp83_0, zp83_1, zp83_2, zo87, zp87_0, zp87_1, zo121, zp121_0, zp121_1, zp121_2, zp121_4, zp121_5, zp121_6, zp121_7, zp121_8, zp121_16, zp121_17, zp121_18, zp121_21, zp121_23, zp121_24, zp121_25, zp121_26, zp121_27, zp121_28, zp121_29, zp121_30, zp121_31, zp121_32, zp121_33, zp121_34, zp79_2, zx2, zx13, zx14, zx15, zx17, zx28, zx29, zx30, zx32, zx43, zx44, zx45, zx47, zx78, zx80, zx84, zx85, zx86, zx88, zx89, zx90, zx99, zx120, zx122, zx123, zx124, zx125, zx126, zx127, zx128, zx129, zx130, zx131, zx132, zx133, zx134, zx135, zx136, zx137, zx138, zx139, zx140, zx141, zx142, zx143, zx144, zx145, zg2, zg17, zg32, zgo3, zgo18, zgo33, zl47, zlo, zlp, zlx, zs90, zso, zsp, zsx, zt99, zto, ztp1, ztp2, ztgo, ztso, ztsp, ztsx, zc0, zi0, zc1, zi1, zc2, zi2, zc3, zi3, zc4, zi4, zc5, zi5, hday, nI_1, liveL, ← Int32.add_assoc]
      exact q1
  obtain ⟨M', q⟩ := L d 0 am_F 0 M hm (by omega) (by unfold am_F; omega) hd
  refine ⟨M', ?_, q.2⟩
  simp only [fxX10_goesOn, am_gd_t, am_lt_e, am_bd_s, bi_0, bi_bz, bz0, bz1, nz2, nz10, nz100, hp_gi, hp_si]
  have q1 := q.1
  rw [Int32.zero_add] at q1
  exact q1
/-! how many more are lost -/
theorem lostS_congr {g g' : Nat → Int32} : ∀ n, (∀ i, i < n → g' (16 + 6 * i + 5) = g (16 + 6 * i + 5)) → lostS g' n = lostS g n := by
  intro n
  induction n with
  | zero => intro _; rfl
  | succ n ih =>
    intro h
    unfold lostS
    rw [ih (fun i hi => h i (by omega)), h n (by omega)]
theorem lostS_wo {g : Nat → Int32} {i : Nat} (h0 : g (16 + 6 * i + 5) = 0) : ∀ n, lostS (wo g i) n = lostS g n + (if i < n then woL g else 0) := by
  intro n
  induction n with
  | zero => rw [if_neg (by omega)]; rfl
  | succ n ih =>
    unfold lostS
    rw [ih]
    by_cases e : n = i
    · subst e
      rw [if_neg (by omega), if_pos (by omega), h0, Int32.add_zero]
      congr 1
      unfold wo
      rw [up1_eq]
    · have : wo g i (16 + 6 * n + 5) = g (16 + 6 * n + 5) := by unfold wo; rw [up1_ne (by omega), up1_ne (by omega), up1_ne (by omega)]
      rw [this]
      by_cases h : i < n
      · rw [if_pos h, if_pos (by omega), Int32.add_assoc, Int32.add_assoc, Int32.add_comm (woL g)]
      · rw [if_neg h, if_neg (by omega), Int32.add_zero, Int32.add_zero]
theorem dayL_lost {home : Int32} : ∀ k i (g : Nat → Int32) n, i + k = n → lostS (dayG home k i g) n = lostS g n + dayL home k i g := by
  intro k
  induction k with
  | zero =>
    intro i g n hk
    unfold dayG dayL
    rw [lostS_congr n (fun i _ => up1_ne (by omega)), Int32.add_zero]
  | succ k ih =>
    intro i g n hk
    unfold dayG dayL
    by_cases hs : nI i = home ∨ ¬ g (16 + 6 * i + 5) = 0
    · rw [if_pos hs, if_pos hs]; exact ih (i + 1) g n (by omega)
    · rw [if_neg hs, if_neg hs, ih (i + 1) (wo g i) n (by omega), lostS_wo (Classical.byContradiction fun q => hs (Or.inr q)), if_pos (by omega), Int32.add_assoc]
theorem liveL_lost {home : Int32} : ∀ d (g : Nat → Int32), cn (g 1) ≤ 10 → lostS (liveG home d g) (cn (g 1)) = lostS g (cn (g 1)) + liveL home d g := by
  intro d
  induction d with
  | zero => intro g _; unfold liveG liveL; rw [Int32.add_zero]
  | succ d ih =>
    intro g hn
    unfold liveG liveL
    have e1 : dayG home (cn (g 1)) 0 g 1 = g 1 := dayG_lo _ _ _ 1 (by decide) (by decide) (by decide) (by omega)
    have := ih (dayG home (cn (g 1)) 0 g) (by rw [e1]; exact hn)
    rw [e1] at this
    rw [this, dayL_lost _ _ _ _ (by omega), Int32.add_assoc]
theorem liveG_2 {home : Int32} : ∀ d (g : Nat → Int32) m, cn (g 1) ≤ 10 → g 2 = nI m → liveG home d g 2 = nI (m + d) := by
  intro d
  induction d with
  | zero => intro g m _ h; exact h
  | succ d ih =>
    intro g m hn h
    unfold liveG
    have e1 : dayG home (cn (g 1)) 0 g 1 = g 1 := dayG_lo _ _ _ 1 (by decide) (by decide) (by decide) (by omega)
    rw [ih _ (m + 1) (by rw [e1]; exact hn) (by rw [dayG_2 _ _ _ (by omega), h, nI_1])]
    congr 1; omega
