/-! ===== promises 2 to 7 but deal: gloves ===== -/
theorem pt00 {lp : Nat} {M : Mem} : am_gr (hp lp M) (some 0) 0 = some 1 := Eq.trans rfl rfl
theorem pt10 {lp : Nat} {M : Mem} : am_gr (hp lp M) (some 1) 0 = some 2 := Eq.trans rfl rfl
theorem ob_1 {lp : Nat} {M : Mem} : am_ob (hp lp M) (some 1) 2 = true := Eq.trans rfl rfl
theorem pm0 {lp : Nat} {M : Mem} : am_gr (hp lp M) (some 121) 0 = some 122 := Eq.trans rfl rfl
theorem pm0i {lp : Nat} {M : Mem} {i : Int32} : am_ix (hp lp M) (some 122) 0 i = am_in i 1448 := Eq.trans rfl rfl
theorem gu1 : isGu 1 := Or.inl rfl
theorem x2 {lp i : Nat} {M : Mem} (hi : i < 10) : am_ix (hp lp M) (some 2) 3 (nI i) = true := (x_gu1 gu1).trans (in_nI hi (by decide))
theorem g2 {lp i : Nat} {M : Mem} (hi : i < 10) : am_gr (hp lp M) (some 2) (nI i).toNatClampNeg = some (3 + i) := by
  rw [nI_clamp (by omega), hp_gr]
  exact p_gl gu1 hi
theorem isG3 {i : Nat} (hi : i < 10) : isG (3 + i) := isG_gl gu1 hi
theorem og3 {lp i : Nat} {M : Mem} (hi : i < 10) : am_ob (hp lp M) (some (3 + i)) 1 = true := ob_g (isG3 hi)
theorem BADne : ¬ ((-1000000001 : Int32) = 0) := by decide
/-- glove numbers: both sides ask the same -/
theorem gl_cases {lp : Nat} {M : Mem} (hI : Inv lp M) (a : Int32) : (iw a 0 (M 122 1 - 1) = false) ∨ (iw a 0 (M 122 1 - 1) = true ∧ ∃ i, i < cn (M 122 1) ∧ i < 10 ∧ a = nI i) := by
  obtain ⟨hn, en⟩ := hI.1.1.2.2.2.2.1.n
  cases h : iw a 0 (M 122 1 - 1) with
  | false => exact Or.inl rfl
  | true =>
    have h2 := h
    rw [en] at h2
    obtain ⟨i, h3, h4⟩ := iw_nI (by omega) h2
    exact Or.inr ⟨rfl, i, h3, by omega, h4⟩
theorem q_h1 {lp : Nat} {M : Mem} (hI : Inv lp M) (x : Int32) : fxX2_hasGlove (some 1) x (hp lp M) = some (bi (iw x 0 (M 122 1 - 1)), hp lp M) := by
  rw [q_hasGlove gu1, hI.1.1.1.2.1]

theorem P_fits (a b : Int32) : Pair (fxX9_fits (some 0) a b) (fxX10_fits (some 121) a b) := by
  refine Pair.same fun lp M hI => ?_
  have h1 := q_h1 hI
  rcases gl_cases hI a with ha | ⟨ha, i, hi, hi10, rfl⟩
  · refine ⟨-1000000001, ?_, ?_⟩
    · simp only [fxX9_fits, fxX9_areTwoGloves, am_gd_t, am_lt_e, am_bd_s, bi_0, bi_bz, bz0, bz1, nz2, nz10, nz100, hp_gi, hp_si, ob_0, ob_1, pt00, pt10, ↓reduceIte, if_true, if_false, Bool.true_eq_false, Bool.false_eq_true, eq_self, reduceCtorEq, h1, ha]
    · simp only [fxX10_fits, am_gd_t, am_lt_e, am_bd_s, bi_0, bi_bz, bz0, bz1, nz2, nz10, nz100, hp_gi, hp_si, ob_M, pm0, pm0i, ↓reduceIte, if_true, if_false, Bool.true_eq_false, Bool.false_eq_true, eq_self, reduceCtorEq, q_isGlove, ha]
  · rcases gl_cases hI b with hb | ⟨hb, j, hj, hj10, rfl⟩
    · refine ⟨-1000000001, ?_, ?_⟩
      · simp only [fxX9_fits, fxX9_areTwoGloves, am_gd_t, am_lt_e, am_bd_s, bi_0, bi_bz, bz0, bz1, nz2, nz10, nz100, hp_gi, hp_si, ob_0, ob_1, pt00, pt10, ↓reduceIte, if_true, if_false, Bool.true_eq_false, Bool.false_eq_true, eq_self, reduceCtorEq, h1, ha, hb]
      · simp only [fxX10_fits, am_gd_t, am_lt_e, am_bd_s, bi_0, bi_bz, bz0, bz1, nz2, nz10, nz100, hp_gi, hp_si, ob_M, pm0, pm0i, ↓reduceIte, if_true, if_false, Bool.true_eq_false, Bool.false_eq_true, eq_self, reduceCtorEq, q_isGlove, ha, hb]
    · have hij : (nI i = nI j) = (i = j) := propext (nI_eq (by omega) (by omega))
      by_cases e : i = j
      · refine ⟨-1000000001, ?_, ?_⟩
        · simp only [fxX9_fits, fxX9_areTwoGloves, am_gd_t, am_lt_e, am_bd_s, bi_0, bi_bz, bz0, bz1, nz2, nz10, nz100, hp_gi, hp_si, ob_0, ob_1, pt00, pt10, ↓reduceIte, if_true, if_false, Bool.true_eq_false, Bool.false_eq_true, eq_self, reduceCtorEq, h1, ha, hb, hij, e]
        · simp only [fxX10_fits, am_gd_t, am_lt_e, am_bd_s, bi_0, bi_bz, bz0, bz1, nz2, nz10, nz100, hp_gi, hp_si, ob_M, pm0, pm0i, ↓reduceIte, if_true, if_false, Bool.true_eq_false, Bool.false_eq_true, eq_self, reduceCtorEq, q_isGlove, ha, hb, hij, e]
      · obtain ⟨v1, w1⟩ := hI.1.1.gv hi
        obtain ⟨v2, w2⟩ := hI.1.1.gv hj
        have hs := suitS_congr w1 w2
        refine ⟨bi (suitS (mg (M 122) i) (mg (M 122) j)), ?_, ?_⟩
        · simp only [fxX9_fits, fxX9_areTwoGloves, am_gd_t, am_lt_e, am_bd_s, bi_0, bi_bz, bz0, bz1, nz2, nz10, nz100, hp_gi, hp_si, ob_0, ob_1, pt00, pt10, ↓reduceIte, if_true, if_false, Bool.true_eq_false, Bool.false_eq_true, eq_self, reduceCtorEq, h1, ha, hb, hij, e, x2 hi10, x2 hj10, g2 hi10, g2 hj10, og3 hi10, og3 hj10, q_suits (isG3 hi10) (isG3 hj10) v1 v2]
          rw [show suitS (M (3 + i)) (M (3 + j)) = suitS (mg (M 122) i) (mg (M 122) j) from hs]
          cases suitS (mg (M 122) i) (mg (M 122) j) <;> rfl
        · simp only [fxX10_fits, am_gd_t, am_lt_e, am_bd_s, bi_0, bi_bz, bz0, bz1, nz2, nz10, nz100, hp_gi, hp_si, ob_M, pm0, pm0i, ↓reduceIte, if_true, if_false, Bool.true_eq_false, Bool.false_eq_true, eq_self, reduceCtorEq, q_isGlove, ha, hb, hij, e, q_doesFit hi10 hj10]
          cases suitS (mg (M 122) i) (mg (M 122) j) <;> rfl

theorem q_trait {lp k : Nat} {M : Mem} (hk : isG k) (hv : GV (M k)) {j : Nat} (hj : 1 ≤ j) (hj6 : j < 6) : fxX1_trait (some k) (nI j) (hp lp M) = some (M k j, hp lp M) := by
  obtain ⟨v, hv1, hv2⟩ := hv 5 (by decide)
  have hv1 : v ≤ 1 := hv1
  rcases (show j = 1 ∨ j = 2 ∨ j = 3 ∨ j = 4 ∨ j = 5 by omega) with rfl | rfl | rfl | rfl | rfl
  · simp only [fxX1_trait, ob_g hk, am_gd_t, am_lt_e, am_bd_s, bi_0, bi_bz, bz0, bz1, nz2, nz10, nz100, hp_gi, hp_si, show (nI 1 = (1 : Int32)) = True from by decide, ↓reduceIte, if_true, if_false, Bool.true_eq_false, Bool.false_eq_true, eq_self, reduceCtorEq]
  · simp only [fxX1_trait, ob_g hk, am_gd_t, am_lt_e, am_bd_s, bi_0, bi_bz, bz0, bz1, nz2, nz10, nz100, hp_gi, hp_si, show (nI 2 = (1 : Int32)) = False from by decide, show (nI 2 = (2 : Int32)) = True from by decide, ↓reduceIte, if_true, if_false, Bool.true_eq_false, Bool.false_eq_true, eq_self, reduceCtorEq]
  · simp only [fxX1_trait, ob_g hk, am_gd_t, am_lt_e, am_bd_s, bi_0, bi_bz, bz0, bz1, nz2, nz10, nz100, hp_gi, hp_si, show (nI 3 = (1 : Int32)) = False from by decide, show (nI 3 = (2 : Int32)) = False from by decide, show (nI 3 = (3 : Int32)) = True from by decide, ↓reduceIte, if_true, if_false, Bool.true_eq_false, Bool.false_eq_true, eq_self, reduceCtorEq]
  · simp only [fxX1_trait, ob_g hk, am_gd_t, am_lt_e, am_bd_s, bi_0, bi_bz, bz0, bz1, nz2, nz10, nz100, hp_gi, hp_si, show (nI 4 = (1 : Int32)) = False from by decide, show (nI 4 = (2 : Int32)) = False from by decide, show (nI 4 = (3 : Int32)) = False from by decide, show (nI 4 = (4 : Int32)) = True from by decide, ↓reduceIte, if_true, if_false, Bool.true_eq_false, Bool.false_eq_true, eq_self, reduceCtorEq]
  · simp only [fxX1_trait, ob_g hk, am_gd_t, am_lt_e, am_bd_s, bi_0, bi_bz, bz0, bz1, nz2, nz10, nz100, hp_gi, hp_si, show (nI 5 = (1 : Int32)) = False from by decide, show (nI 5 = (2 : Int32)) = False from by decide, show (nI 5 = (3 : Int32)) = False from by decide, show (nI 5 = (4 : Int32)) = False from by decide, ↓reduceIte, if_true, if_false, Bool.true_eq_false, Bool.false_eq_true, eq_self, reduceCtorEq, hv2]
    rcases (show v = 0 ∨ v = 1 by omega) with rfl | rfl <;> rfl
theorem isOf_loop : ∀ k, k ≤ 5 → ∀ w, w ≤ 5 → ∀ h, fxX1_isOf_b7 am_F (nI w) (nI k) 0 h = some (bi (underS (nI k) (nI w)), h) := by
  intro k hk w hw h
  rcases (show k = 0 ∨ k = 1 ∨ k = 2 ∨ k = 3 ∨ k = 4 ∨ k = 5 by omega) with rfl | rfl | rfl | rfl | rfl | rfl <;> rcases (show w = 0 ∨ w = 1 ∨ w = 2 ∨ w = 3 ∨ w = 4 ∨ w = 5 by omega) with rfl | rfl | rfl | rfl | rfl | rfl <;> rfl
theorem q_isOf {lp k : Nat} {M : Mem} (hk : isG k) (hv : GV (M k)) {w : Nat} (hw : w ≤ 5) : fxX1_isOf (some k) (nI w) (hp lp M) = some (bi (underS (M k 0) (nI w)), hp lp M) := by
  obtain ⟨v, hv1, hv2⟩ := hv 0 (by decide)
  have hv1 : v ≤ 5 := hv1
  simp only [fxX1_isOf, ob_g hk, am_gd_t, am_lt_e, am_bd_s, bi_0, bi_bz, bz0, bz1, nz2, nz10, nz100, hp_gi, hp_si, hv2, isOf_loop v hv1 w hw]
theorem P_told (a b : Int32) : Pair (fxX9_told (some 0) a b) (fxX10_told (some 121) a b) := by
  refine Pair.same fun lp M hI => ?_
  have h1 := q_h1 hI
  rcases gl_cases hI a with ha | ⟨ha, i, hi, hi10, rfl⟩
  · refine ⟨-1000000001, ?_, ?_⟩
    · simp only [fxX9_told, am_gd_t, am_lt_e, am_bd_s, bi_0, bi_bz, bz0, bz1, nz2, nz10, nz100, hp_gi, hp_si, ob_0, ob_1, pt00, pt10, ↓reduceIte, if_true, if_false, Bool.true_eq_false, Bool.false_eq_true, eq_self, reduceCtorEq, h1, ha]
    · simp only [fxX10_told, am_gd_t, am_lt_e, am_bd_s, bi_0, bi_bz, bz0, bz1, nz2, nz10, nz100, hp_gi, hp_si, ob_M, pm0, pm0i, ↓reduceIte, if_true, if_false, Bool.true_eq_false, Bool.false_eq_true, eq_self, reduceCtorEq, q_isGlove, ha]
  · obtain ⟨v1, w1⟩ := hI.1.1.gv hi
    cases hb : iw b 0 6 with
    | false =>
      have hb0 : ¬ b = 0 := by rintro rfl; revert hb; decide
      have hb6 : ¬ b = 6 := by rintro rfl; revert hb; decide
      have hb5 : iw b 1 5 = false := by
        simp only [iw, Bool.and_eq_false_iff, decide_eq_false_iff_not, Int32.le_iff_toInt_le] at hb ⊢
        have e0 : (0 : Int32).toInt = 0 := rfl
        have e1 : (1 : Int32).toInt = 1 := rfl
        have e5 : (5 : Int32).toInt = 5 := rfl
        have e6 : (6 : Int32).toInt = 6 := rfl
        omega
      refine ⟨-1000000001, ?_, ?_⟩
      · simp only [fxX9_told, am_gd_t, am_lt_e, am_bd_s, bi_0, bi_bz, bz0, bz1, nz2, nz10, nz100, hp_gi, hp_si, ob_0, ob_1, pt00, pt10, ↓reduceIte, if_true, if_false, Bool.true_eq_false, Bool.false_eq_true, eq_self, reduceCtorEq, h1, ha, x2 hi10, g2 hi10, og3 hi10, hb0, hb6, q_within, hb5]
      · simp only [fxX10_told, am_gd_t, am_lt_e, am_bd_s, bi_0, bi_bz, bz0, bz1, nz2, nz10, nz100, hp_gi, hp_si, ob_M, pm0, pm0i, ↓reduceIte, if_true, if_false, Bool.true_eq_false, Bool.false_eq_true, eq_self, reduceCtorEq, q_isGlove, ha, q_in, hb]
    | true =>
      obtain ⟨j, hj, rfl⟩ := iw_lit 6 (b := 6) rfl (by decide) hb
      by_cases hj6 : j = 6
      · subst hj6
        have hw : worthS (M (3 + i)) = (if mg (M 122) i 0 = 4 then 96 - mg (M 122) i 3 else worthS (mg (M 122) i)) := by
          rw [show worthS (M (3 + i)) = worthS (mg (M 122) i) from worthS_congr w1]
          split
          · next h4 =>
            unfold worthS
            simp only [h4, show ((4 : Int32) = 1) = False from by decide, show ((4 : Int32) = 2) = False from by decide, show ((4 : Int32) = 3) = False from by decide, ↓reduceIte, if_true, if_false, Bool.true_eq_false, Bool.false_eq_true, eq_self, reduceCtorEq]
            rw [show (96 : Int32) = 99 - 3 from rfl]
            rw [Int32.sub_eq_add_neg, Int32.sub_eq_add_neg, Int32.sub_eq_add_neg, Int32.sub_eq_add_neg, Int32.add_assoc, Int32.add_assoc, Int32.add_comm (-3)]
          · rfl
        refine ⟨worthS (M (3 + i)), ?_, ?_⟩
        · simp only [fxX9_told, am_gd_t, am_lt_e, am_bd_s, bi_0, bi_bz, bz0, bz1, nz2, nz10, nz100, hp_gi, hp_si, ob_0, ob_1, pt00, pt10, ↓reduceIte, if_true, if_false, Bool.true_eq_false, Bool.false_eq_true, eq_self, reduceCtorEq, h1, ha, x2 hi10, g2 hi10, og3 hi10, show (nI 6 = (0 : Int32)) = False from by decide, show (nI 6 = (6 : Int32)) = True from by decide, q_worth (isG3 hi10)]
        · simp only [fxX10_told, am_gd_t, am_lt_e, am_bd_s, bi_0, bi_bz, bz0, bz1, nz2, nz10, nz100, hp_gi, hp_si, ob_M, pm0, pm0i, ↓reduceIte, if_true, if_false, Bool.true_eq_false, Bool.false_eq_true, eq_self, reduceCtorEq, q_isGlove, ha, q_in, hb, show ((6 : Int32) ≤ nI 6) = True from by decide, q_worthOf hi10]
          rw [hw]
      · have h6 : ((6 : Int32) ≤ nI j) = False := by
          simp only [eq_iff_iff, iff_false]
          intro q
          have := (nI_leI (a := 6) (b := j) (by decide) (by omega)).mp q
          omega
        have n6 : (nI j = (6 : Int32)) = False := by
          simp only [eq_iff_iff, iff_false]
          exact fun q => hj6 ((nI_eq (a := j) (b := 6) (by omega) (by decide)).mp q)
        refine ⟨mg (M 122) i j, ?_, ?_⟩
        · by_cases hj0 : j = 0
          · subst hj0
            simp only [fxX9_told, am_gd_t, am_lt_e, am_bd_s, bi_0, bi_bz, bz0, bz1, nz2, nz10, nz100, hp_gi, hp_si, ob_0, ob_1, pt00, pt10, ↓reduceIte, if_true, if_false, Bool.true_eq_false, Bool.false_eq_true, eq_self, reduceCtorEq, h1, ha, x2 hi10, g2 hi10, og3 hi10, show (nI 0 = (0 : Int32)) = True from by decide]
            rw [show M (3 + i) 0 = mg (M 122) i 0 from w1 0 (by decide)]
          · have n0 : (nI j = (0 : Int32)) = False := by
              simp only [eq_iff_iff, iff_false]
              exact fun q => hj0 ((nI_eq (a := j) (b := 0) (by omega) (by decide)).mp q)
            have h15 : iw (nI j) 1 5 = true := by
              rcases (show j = 1 ∨ j = 2 ∨ j = 3 ∨ j = 4 ∨ j = 5 by omega) with rfl | rfl | rfl | rfl | rfl <;> decide
            simp only [fxX9_told, am_gd_t, am_lt_e, am_bd_s, bi_0, bi_bz, bz0, bz1, nz2, nz10, nz100, hp_gi, hp_si, ob_0, ob_1, pt00, pt10, ↓reduceIte, if_true, if_false, Bool.true_eq_false, Bool.false_eq_true, eq_self, reduceCtorEq, h1, ha, x2 hi10, g2 hi10, og3 hi10, n0, n6, q_within, h15, q_trait (isG3 hi10) v1 (show 1 ≤ j by omega) (show j < 6 by omega)]
            rw [show M (3 + i) j = mg (M 122) i j from w1 j (by omega)]
        · simp only [fxX10_told, am_gd_t, am_lt_e, am_bd_s, bi_0, bi_bz, bz0, bz1, nz2, nz10, nz100, hp_gi, hp_si, ob_M, pm0, pm0i, ↓reduceIte, if_true, if_false, Bool.true_eq_false, Bool.false_eq_true, eq_self, reduceCtorEq, q_isGlove, ha, q_in, hb, h6, q_of hi10 (show j < 6 by omega) (nI j) rfl]
          rfl
theorem P_as (a b : Int32) : Pair (fxX9_as (some 0) a b) (fxX10_as (some 121) a b) := by
  refine Pair.same fun lp M hI => ?_
  have h1 := q_h1 hI
  rcases gl_cases hI a with ha | ⟨ha, i, hi, hi10, rfl⟩
  · refine ⟨-1000000001, ?_, ?_⟩
    · simp only [fxX9_as, am_gd_t, am_lt_e, am_bd_s, bi_0, bi_bz, bz0, bz1, nz2, nz10, nz100, hp_gi, hp_si, ob_0, ob_1, pt00, pt10, ↓reduceIte, if_true, if_false, Bool.true_eq_false, Bool.false_eq_true, eq_self, reduceCtorEq, h1, ha]
    · simp only [fxX10_as, am_gd_t, am_lt_e, am_bd_s, bi_0, bi_bz, bz0, bz1, nz2, nz10, nz100, hp_gi, hp_si, ob_M, pm0, pm0i, ↓reduceIte, if_true, if_false, Bool.true_eq_false, Bool.false_eq_true, eq_self, reduceCtorEq, q_isGlove, ha]
  · obtain ⟨v1, w1⟩ := hI.1.1.gv hi
    cases hb : iw b 0 5 with
    | false =>
      refine ⟨-1000000001, ?_, ?_⟩
      · simp only [fxX9_as, am_gd_t, am_lt_e, am_bd_s, bi_0, bi_bz, bz0, bz1, nz2, nz10, nz100, hp_gi, hp_si, ob_0, ob_1, pt00, pt10, ↓reduceIte, if_true, if_false, Bool.true_eq_false, Bool.false_eq_true, eq_self, reduceCtorEq, h1, ha, q_isKind, hb]
      · simp only [fxX10_as, am_gd_t, am_lt_e, am_bd_s, bi_0, bi_bz, bz0, bz1, nz2, nz10, nz100, hp_gi, hp_si, ob_M, pm0, pm0i, ↓reduceIte, if_true, if_false, Bool.true_eq_false, Bool.false_eq_true, eq_self, reduceCtorEq, q_isGlove, ha, q_in, hb]
    | true =>
      obtain ⟨w, hw, rfl⟩ := iw_lit 5 (b := 5) rfl (by decide) hb
      refine ⟨if underS (mg (M 122) i 0) (nI w) = true then mg (M 122) i 3 else -1000000012, ?_, ?_⟩
      · simp only [fxX9_as, am_gd_t, am_lt_e, am_bd_s, bi_0, bi_bz, bz0, bz1, nz2, nz10, nz100, hp_gi, hp_si, ob_0, ob_1, pt00, pt10, ↓reduceIte, if_true, if_false, Bool.true_eq_false, Bool.false_eq_true, eq_self, reduceCtorEq, h1, ha, q_isKind, hb, x2 hi10, g2 hi10, og3 hi10, q_isOf (isG3 hi10) v1 hw]
        rw [show M (3 + i) 0 = mg (M 122) i 0 from w1 0 (by decide), show M (3 + i) 3 = mg (M 122) i 3 from w1 3 (by decide)]
        cases underS (mg (M 122) i 0) (nI w) <;> rfl
      · simp only [fxX10_as, am_gd_t, am_lt_e, am_bd_s, bi_0, bi_bz, bz0, bz1, nz2, nz10, nz100, hp_gi, hp_si, ob_M, pm0, pm0i, ↓reduceIte, if_true, if_false, Bool.true_eq_false, Bool.false_eq_true, eq_self, reduceCtorEq, q_isGlove, ha, q_in, hb, q_of hi10 (show 0 < 6 by decide) (0 : Int32) rfl, q_of hi10 (show 3 < 6 by decide) (3 : Int32) rfl, q_isUnder]
        show (if underS (mg (M 122) i 0) (nI w) = false then _ else _) = _
        cases underS (mg (M 122) i 0) (nI w) <;> rfl
