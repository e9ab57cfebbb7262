/-! ===== feed ===== -/
theorem shr_byte (x s : Int32) (k : Nat) (hk : k = 0 ∨ k = 8 ∨ k = 16 ∨ k = 24) (hs : (s.toBitVec.smod 32).toNat = k) : (x >>> s).toBitVec.toNat % 256 = x.toBitVec.toNat / 2 ^ k % 256 := by
  have h := pk_shr x s k hs
  rw [Int.shiftRight_eq_div_pow] at h
  have h1 : x.toInt = x.toBitVec.toInt := rfl
  have h2 : (x >>> s).toInt = (x >>> s).toBitVec.toInt := rfl
  rw [h1, h2, BitVec.toInt_eq_toNat_cond, BitVec.toInt_eq_toNat_cond] at h
  have l1 := x.toBitVec.isLt
  have l2 := (x >>> s).toBitVec.isLt
  generalize x.toBitVec.toNat = N at *
  generalize (x >>> s).toBitVec.toNat = R at *
  rcases hk with rfl | rfl | rfl | rfl
  all_goals (split at h <;> split at h <;> omega)
def byS (w : Int32) (k : Nat) : Int32 := am_ush w (nI (24 - 8 * k)) &&& 255
theorem byS_nI (w : Int32) (k : Nat) : ∃ v, v ≤ 255 ∧ byS w k = nI v := by
  obtain ⟨j, h1, h2⟩ := pk_andE (am_ush w (nI (24 - 8 * k))) (m := 255) 8 rfl
  exact ⟨j, by omega, h2⟩
theorem byS_m (w : Int32) (j : Nat) (hj : j < 4) : (w >>> (((24 : Int32) - (8 : Int32) * nI j) &&& 31)) &&& 255 = byS w j := by
  unfold byS
  rw [pk_and _ (m := 255) 8 rfl, pk_and _ (m := 255) 8 rfl]
  congr 1
  rcases (show j = 0 ∨ j = 1 ∨ j = 2 ∨ j = 3 by omega) with rfl | rfl | rfl | rfl
  · rw [shr_byte w _ 24 (by omega) (by decide), show am_ush w (nI (24 - 8 * 0)) = (w.toUInt32 >>> ((nI 24).toUInt32 &&& Int32.toUInt32 31)).toInt32 from rfl, pk_ushr w (nI 24) 24 (by decide)]
  · rw [shr_byte w _ 16 (by omega) (by decide), show am_ush w (nI (24 - 8 * 1)) = (w.toUInt32 >>> ((nI 16).toUInt32 &&& Int32.toUInt32 31)).toInt32 from rfl, pk_ushr w (nI 16) 16 (by decide)]
  · rw [shr_byte w _ 8 (by omega) (by decide), show am_ush w (nI (24 - 8 * 2)) = (w.toUInt32 >>> ((nI 8).toUInt32 &&& Int32.toUInt32 31)).toInt32 from rfl, pk_ushr w (nI 8) 8 (by decide)]
  · rw [shr_byte w _ 0 (by omega) (by decide), show am_ush w (nI (24 - 8 * 3)) = (w.toUInt32 >>> ((nI 0).toUInt32 &&& Int32.toUInt32 31)).toInt32 from rfl, pk_ushr w (nI 0) 0 (by decide)]
/-- the row of bytes behind twelve more -/
def fed (g : Nat → Int32) (n : Nat) (a b c : Int32) (m : Nat) : Nat → Int32 := fun i => if n ≤ i ∧ i < n + m then byS (if i - n < 4 then a else if i - n < 8 then b else c) ((i - n) % 4) else g i
theorem addB_step {lp n f : Nat} {M : Mem} (hn : n < 96) (e : M 79 1 = nI n) (w sh : Int32) (h0 : ¬ sh < 0) : fxX8_addBytes_b3 (f + 1) (some 79) w sh (hp lp M) = fxX8_addBytes_b3 f (some 79) w (sh + (-8)) (hp lp (am_up (am_up M 80 n (am_ush w sh &&& 255)) 79 1 (nI (n + 1)))) := by
  have c : ((96 : Int32) ≤ nI n) = False := zle (n := 96) (by omega) (by decide)
  simp (disch := omega) only [fxX8_addBytes_b3, h0, am_gd_t, am_lt_e, am_bd_s, bi_0, bi_bz, bz0, bz1, nz2, nz10, nz100, hp_gi, hp_si, ↓reduceIte, if_true, if_false, Bool.true_eq_false, Bool.false_eq_true, eq_self, reduceCtorEq, zo0, zp0_0, zp0_1, zp0_2, zp0_4, zp0_5, zp0_6, zp0_7, zp0_8, zp0_9, zp0_10, zo1, zp1_0, zp1_5, zp1_6, zp1_9, zo16, zp16_0, zp16_5, zp16_6, zp16_9, zo31, zp31_0, zp31_5, zp31_6, zp31_9, zo46, zp46_0, zp46_1, zp46_2, zo79, zp79_0, zo83, zp83_0, zp83_1, zp83_2, zo87, zp87_0, zp87_1, zo121, zp121_0, zp121_1, zp121_2, zp121_4, zp121_5, zp121_6, zp121_7, zp121_8, zp121_16, zp121_17, zp121_18, zp121_21, zp121_23, zp121_24, zp121_25, zp121_26, zp121_27, zp121_28, zp121_29, zp121_30, zp121_31, zp121_32, zp121_33, zp121_34, zp79_2, zx2, zx13, zx14, zx15, zx17, zx28, zx29, zx30, zx32, zx43, zx44, zx45, zx47, zx78, zx80, zx84, zx85, zx86, zx88, zx89, zx90, zx99, zx120, zx122, zx123, zx124, zx125, zx126, zx127, zx128, zx129, zx130, zx131, zx132, zx133, zx134, zx135, zx136, zx137, zx138, zx139, zx140, zx141, zx142, zx143, zx144, zx145, zg2, zg17, zg32, zgo3, zgo18, zgo33, zl47, zlo, zlp, zlx, zs90, zso, zsp, zsx, zt99, zto, ztp1, ztp2, ztgo, ztso, ztsp, ztsx, zc0, zi0, zc1, zi1, zc2, zi2, zc3, zi3, zc4, zi4, zc5, zi5, zin, zcl, nI_1, Bool.and_self, Bool.true_and, Bool.and_true, e, c, up_nk]
theorem q_addB {lp n : Nat} {M : Mem} (hn : n + 4 ≤ 96) (e : M 79 1 = nI n) (w : Int32) : ∃ M', fxX8_addBytes (some 79) w (hp lp M) = some ((), hp lp M') ∧ M' 79 1 = nI (n + 4) ∧ (∀ i, M' 80 i = if n ≤ i ∧ i < n + 4 then byS w (i - n) else M 80 i) ∧ ∀ z, z ≠ 79 → z ≠ 80 → M' z = M z := by
  refine ⟨am_up (am_up (am_up (am_up (am_up (am_up (am_up (am_up (M) 80 (n) (am_ush w ((24 : Int32)) &&& 255)) 79 1 (nI (n + 1))) 80 (n + 1) (am_ush w ((24 : Int32) + -8) &&& 255)) 79 1 (nI (n + 1 + 1))) 80 (n + 1 + 1) (am_ush w ((24 : Int32) + -8 + -8) &&& 255)) 79 1 (nI (n + 1 + 1 + 1))) 80 (n + 1 + 1 + 1) (am_ush w ((24 : Int32) + -8 + -8 + -8) &&& 255)) 79 1 (nI (n + 1 + 1 + 1 + 1)), ?_, ?_, ?_, ?_⟩
  · simp only [fxX8_addBytes, am_gd_t, am_lt_e, am_bd_s, bi_0, bi_bz, bz0, bz1, nz2, nz10, nz100, hp_gi, hp_si]
    show fxX8_addBytes_b3 (3995 + 1 + 1 + 1 + 1 + 1) _ _ _ _ = _
    rw [addB_step (by omega) e _ _ (by decide), addB_step (n := n + 1) (by omega) (up_eq _ _ _ _) _ _ (by decide), addB_step (n := n + 1 + 1) (by omega) (up_eq _ _ _ _) _ _ (by decide), addB_step (n := n + 1 + 1 + 1) (by omega) (up_eq _ _ _ _) _ _ (by decide)]
    simp only [fxX8_addBytes_b3, show ((24 : Int32) + -8 + -8 + -8 + -8 < 0) = True from by decide, ↓reduceIte, if_true, if_false, Bool.true_eq_false, Bool.false_eq_true, eq_self, reduceCtorEq]
  · rw [up_eq]
  · intro i
    rw [up_nk (by decide), up_row, am_up_ne (by decide), up_row, am_up_ne (by decide), up_row, am_up_ne (by decide), up_row]
    unfold up1 byS
    by_cases h : n ≤ i ∧ i < n + 4
    · rw [if_pos h]
      rcases (show i = n ∨ i = n + 1 ∨ i = n + 2 ∨ i = n + 3 by omega) with rfl | rfl | rfl | rfl
      · rw [if_neg (by omega), if_neg (by omega), if_neg (by omega), if_pos rfl, Nat.sub_self]
        rfl
      · rw [if_neg (by omega), if_neg (by omega), if_pos rfl, show n + 1 - n = 1 by omega]
        rfl
      · rw [if_neg (by omega), if_pos (by omega), show n + 2 - n = 2 by omega]
        rfl
      · rw [if_pos (by omega), show n + 3 - n = 3 by omega]
        rfl
    · rw [if_neg h, if_neg (by omega), if_neg (by omega), if_neg (by omega), if_neg (by omega)]
  · intro z h1 h2
    rw [am_up_ne h1, am_up_ne h2, am_up_ne h1, am_up_ne h2, am_up_ne h1, am_up_ne h2, am_up_ne h1, am_up_ne h2]
theorem nz4 : am_nz (4 : Int32) = true := Eq.trans rfl rfl
theorem feed_m {lp n : Nat} {a b c : Int32} (hn : n + 12 ≤ 96) : ∀ m k fuel (M : Mem), k + m = 12 → m < fuel → M 121 9 = nI n → ∃ M', fxX10_feed_b18 fuel (some 121) a b c (nI k) (hp lp M) = some (nI (n + 12), hp lp M') ∧ M' 121 = up1 (M 121) 9 (nI (n + 12)) ∧ (∀ i, M' 129 i = if n + k ≤ i ∧ i < n + 12 then byS (if i - n < 4 then a else if i - n < 8 then b else c) ((i - n) % 4) else M 129 i) ∧ ∀ z, z ≠ 121 → z ≠ 129 → M' z = M z := by
  intro m
  induction m with
  | zero =>
    intro k fuel M hk hf e
    obtain ⟨fuel, rfl⟩ : ∃ f, fuel = f + 1 := ⟨fuel - 1, by omega⟩
    obtain rfl : k = 12 := by omega
    refine ⟨am_up M 121 9 (nI (n + 12)), ?_, up_row _ _ _ _, fun i => by rw [if_neg (by omega), am_up_ne (by decide)], fun z z1 z2 => am_up_ne z1⟩
    simp only [fxX10_feed_b18, show ((12 : Int32) ≤ nI 12) = True from by decide, am_gd_t, am_lt_e, am_bd_s, bi_0, bi_bz, bz0, bz1, nz2, nz10, nz100, hp_gi, hp_si, ↓reduceIte, if_true, if_false, Bool.true_eq_false, Bool.false_eq_true, eq_self, reduceCtorEq, zo0, zp0_0, zp0_1, zp0_2, zp0_4, zp0_5, zp0_6, zp0_7, zp0_8, zp0_9, zp0_10, zo1, zp1_0, zp1_5, zp1_6, zp1_9, zo16, zp16_0, zp16_5, zp16_6, zp16_9, zo31, zp31_0, zp31_5, zp31_6, zp31_9, zo46, zp46_0, zp46_1, zp46_2, zo79, zp79_0, zo83, zp83_0, zp83_1, zp83_2, zo87, zp87_0, zp87_1, zo121, zp121_0, zp121_1, zp121_2, zp121_4, zp121_5, zp121_6, zp121_7, zp121_8, zp121_16, zp121_17, zp121_18, zp121_21, zp121_23, zp121_24, zp121_25, zp121_26, zp121_27, zp121_28, zp121_29, zp121_30, zp121_31, zp121_32, zp121_33, zp121_34, zp79_2, zx2, zx13, zx14, zx15, zx17, zx28, zx29, zx30, zx32, zx43, zx44, zx45, zx47, zx78, zx80, zx84, zx85, zx86, zx88, zx89, zx90, zx99, zx120, zx122, zx123, zx124, zx125, zx126, zx127, zx128, zx129, zx130, zx131, zx132, zx133, zx134, zx135, zx136, zx137, zx138, zx139, zx140, zx141, zx142, zx143, zx144, zx145, zg2, zg17, zg32, zgo3, zgo18, zgo33, zl47, zlo, zlp, zlx, zs90, zso, zsp, zsx, zt99, zto, ztp1, ztp2, ztgo, ztso, ztsp, ztsx, zc0, zi0, zc1, zi1, zc2, zi2, zc3, zi3, zc4, zi4, zc5, zi5, e, up_eq, show nI n + 12 = nI (n + 12) from nI_add n 12]
  | succ m ih =>
    intro k fuel M hk hf e
    obtain ⟨fuel, rfl⟩ : ∃ f, fuel = f + 1 := ⟨fuel - 1, by omega⟩
    have e12 : ((12 : Int32) ≤ nI k) = False := zle (n := 12) (by omega) (by decide)
    have er : am_rem (nI k) 4 = nI (k % 4) := pk_rem (d := 4) (by omega) (by decide) (by decide)
    have hby := fun (w : Int32) => byS_m w (k % 4) (by omega)
    generalize hw : (if k < 4 then a else if k < 8 then b else c) = w
    obtain ⟨M', q1, q2, q3, q4⟩ := ih (k + 1) fuel (am_up M 129 (n + k) (byS w (k % 4))) (by omega) (by omega) (by rw [up_nk (by decide)]; exact e)
    rw [am_up_ne (by decide)] at q2
    refine ⟨M', ?_, q2, fun i => ?_, fun z z1 z2 => by rw [q4 z z1 z2, am_up_ne z2]⟩
    · have key : ∀ w', w' = w → fxX10_feed_b47 (fxX10_feed_b18 fuel) (some 121) a b c (nI k) w' (hp lp M) = some (nI (n + 12), hp lp M') := by
        intro w' hw'
        subst hw'
        simp (disch := omega) only [fxX10_feed_b47, am_gd_t, am_lt_e, am_bd_s, bi_0, bi_bz, bz0, bz1, nz2, nz10, nz100, hp_gi, hp_si, ↓reduceIte, if_true, if_false, Bool.true_eq_false, Bool.false_eq_true, eq_self, reduceCtorEq, zo0, zp0_0, zp0_1, zp0_2, zp0_4, zp0_5, zp0_6, zp0_7, zp0_8, zp0_9, zp0_10, zo1, zp1_0, zp1_5, zp1_6, zp1_9, zo16, zp16_0, zp16_5, zp16_6, zp16_9, zo31, zp31_0, zp31_5, zp31_6, zp31_9, zo46, zp46_0, zp46_1, zp46_2, zo79, zp79_0, zo83, zp83_0, zp83_1, zp83_2, zo87, zp87_0, zp87_1, zo121, zp121_0, zp121_1, zp121_2, zp121_4, zp121_5, zp121_6, zp121_7, zp121_8, zp121_16, zp121_17, zp121_18, zp121_21, zp121_23, zp121_24, zp121_25, zp121_26, zp121_27, zp121_28, zp121_29, zp121_30, zp121_31, zp121_32, zp121_33, zp121_34, zp79_2, zx2, zx13, zx14, zx15, zx17, zx28, zx29, zx30, zx32, zx43, zx44, zx45, zx47, zx78, zx80, zx84, zx85, zx86, zx88, zx89, zx90, zx99, zx120, zx122, zx123, zx124, zx125, zx126, zx127, zx128, zx129, zx130, zx131, zx132, zx133, zx134, zx135, zx136, zx137, zx138, zx139, zx140, zx141, zx142, zx143, zx144, zx145, zg2, zg17, zg32, zgo3, zgo18, zgo33, zl47, zlo, zlp, zlx, zs90, zso, zsp, zsx, zt99, zto, ztp1, ztp2, ztgo, ztso, ztsp, ztsx, zc0, zi0, zc1, zi1, zc2, zi2, zc3, zi3, zc4, zi4, zc5, zi5, zin, zcl, nI_1, Bool.and_self, Bool.true_and, Bool.and_true, e, nz4, er, hby, nI_add]
        exact q1
      simp only [fxX10_feed_b18, e12, ↓reduceIte, if_true, if_false, Bool.true_eq_false, Bool.false_eq_true, eq_self, reduceCtorEq]
      by_cases h4 : k < 4
      · rw [if_neg (show ¬ (4 : Int32) ≤ nI k from nI_ge (b := 4) h4 (by decide))]
        rw [if_pos h4] at hw
        exact key a hw
      · rw [if_pos (show (4 : Int32) ≤ nI k from nI_le (a := 4) (by omega) (by omega))]
        rw [if_neg h4] at hw
        by_cases h8 : k < 8
        · rw [if_neg (show ¬ (8 : Int32) ≤ nI k from nI_ge (b := 8) h8 (by decide))]
          rw [if_pos h8] at hw
          exact key b hw
        · rw [if_pos (show (8 : Int32) ≤ nI k from nI_le (a := 8) (by omega) (by omega))]
          rw [if_neg h8] at hw
          exact key c hw
    · rw [q3 i, up_row]
      unfold up1
      by_cases h1 : i = n + k
      · subst h1
        rw [if_neg (by omega), if_pos rfl, if_pos (by omega), show n + k - n = k by omega, hw]
      · rw [if_neg h1]
        by_cases h2 : n + (k + 1) ≤ i ∧ i < n + 12
        · rw [if_pos h2, if_pos (show n + k ≤ i ∧ i < n + 12 by omega)]
        · rw [if_neg h2, if_neg (show ¬ (n + k ≤ i ∧ i < n + 12) by omega)]
theorem P_feed (a b c : Int32) : Pair (fxX9_feed (some 0) a b c) (fxX10_feed (some 121) a b c) := by
  intro lp M hI
  obtain ⟨n, hn, e1, e2, e3⟩ := hI.2.2.1
  by_cases hf : n + 12 ≤ 96
  · have hc : (nI (n + 12) ≤ (96 : Int32)) = True := eq_true (nI_le (b := 96) hf (by decide))
    obtain ⟨A, a1, a2, a3, a4⟩ := q_addB (lp := lp) (M := M) (by omega) e1 a
    obtain ⟨B, b1, b2, b3, b4⟩ := q_addB (lp := lp) (M := A) (by omega) a2 b
    obtain ⟨C, c1, c2, c3, c4⟩ := q_addB (lp := lp) (M := B) (by omega) b2 c
    have r : ∀ z, z ≠ 79 → z ≠ 80 → C z = M z := fun z z1 z2 => by rw [c4 z z1 z2, b4 z z1 z2, a4 z z1 z2]
    obtain ⟨D, d1, d2, d3, d4⟩ := feed_m (lp := lp) (a := a) (b := b) (c := c) hf 12 0 am_F C (by omega) (by unfold am_F; omega) (by rw [r 121 (by decide) (by decide)]; exact e2)
    refine ⟨nI (n + 12), lp, C, D, ?_, ?_, ?_⟩
    · have hc' : (nI n + 12 ≤ (96 : Int32)) = True := by rw [show nI n + 12 = nI (n + 12) from nI_add n 12]; exact hc
      simp only [fxX9_feed, am_gd_t, am_lt_e, am_bd_s, bi_0, bi_bz, bz0, bz1, nz2, nz10, nz100, hp_gi, hp_si, ↓reduceIte, if_true, if_false, Bool.true_eq_false, Bool.false_eq_true, eq_self, reduceCtorEq, zo0, zp0_0, zp0_1, zp0_2, zp0_4, zp0_5, zp0_6, zp0_7, zp0_8, zp0_9, zp0_10, zo1, zp1_0, zp1_5, zp1_6, zp1_9, zo16, zp16_0, zp16_5, zp16_6, zp16_9, zo31, zp31_0, zp31_5, zp31_6, zp31_9, zo46, zp46_0, zp46_1, zp46_2, zo79, zp79_0, zo83, zp83_0, zp83_1, zp83_2, zo87, zp87_0, zp87_1, zo121, zp121_0, zp121_1, zp121_2, zp121_4, zp121_5, zp121_6, zp121_7, zp121_8, zp121_16, zp121_17, zp121_18, zp121_21, zp121_23, zp121_24, zp121_25, zp121_26, zp121_27, zp121_28, zp121_29, zp121_30, zp121_31, zp121_32, zp121_33, zp121_34, zp79_2, zx2, zx13, zx14, zx15, zx17, zx28, zx29, zx30, zx32, zx43, zx44, zx45, zx47, zx78, zx80, zx84, zx85, zx86, zx88, zx89, zx90, zx99, zx120, zx122, zx123, zx124, zx125, zx126, zx127, zx128, zx129, zx130, zx131, zx132, zx133, zx134, zx135, zx136, zx137, zx138, zx139, zx140, zx141, zx142, zx143, zx144, zx145, zg2, zg17, zg32, zgo3, zgo18, zgo33, zl47, zlo, zlp, zlx, zs90, zso, zsp, zsx, zt99, zto, ztp1, ztp2, ztgo, ztso, ztsp, ztsx, zc0, zi0, zc1, zi1, zc2, zi2, zc3, zi3, zc4, zi4, zc5, zi5, e1, hc', a1, b1, c1, c2]
    · have e2' : C 121 9 = nI n := by rw [r 121 (by decide) (by decide)]; exact e2
      have hc' : (nI n + 12 ≤ (96 : Int32)) = True := by rw [show nI n + 12 = nI (n + 12) from nI_add n 12]; exact hc
      simp only [fxX10_feed, am_gd_t, am_lt_e, am_bd_s, bi_0, bi_bz, bz0, bz1, nz2, nz10, nz100, hp_gi, hp_si, ↓reduceIte, if_true, if_false, Bool.true_eq_false, Bool.false_eq_true, eq_self, reduceCtorEq, zo0, zp0_0, zp0_1, zp0_2, zp0_4, zp0_5, zp0_6, zp0_7, zp0_8, zp0_9, zp0_10, zo1, zp1_0, zp1_5, zp1_6, zp1_9, zo16, zp16_0, zp16_5, zp16_6, zp16_9, zo31, zp31_0, zp31_5, zp31_6, zp31_9, zo46, zp46_0, zp46_1, zp46_2, zo79, zp79_0, zo83, zp83_0, zp83_1, zp83_2, zo87, zp87_0, zp87_1, zo121, zp121_0, zp121_1, zp121_2, zp121_4, zp121_5, zp121_6, zp121_7, zp121_8, zp121_16, zp121_17, zp121_18, zp121_21, zp121_23, zp121_24, zp121_25, zp121_26, zp121_27, zp121_28, zp121_29, zp121_30, zp121_31, zp121_32, zp121_33, zp121_34, zp79_2, zx2, zx13, zx14, zx15, zx17, zx28, zx29, zx30, zx32, zx43, zx44, zx45, zx47, zx78, zx80, zx84, zx85, zx86, zx88, zx89, zx90, zx99, zx120, zx122, zx123, zx124, zx125, zx126, zx127, zx128, zx129, zx130, zx131, zx132, zx133, zx134, zx135, zx136, zx137, zx138, zx139, zx140, zx141, zx142, zx143, zx144, zx145, zg2, zg17, zg32, zgo3, zgo18, zgo33, zl47, zlo, zlp, zlx, zs90, zso, zsp, zsx, zt99, zto, ztp1, ztp2, ztgo, ztso, ztsp, ztsx, zc0, zi0, zc1, zi1, zc2, zi2, zc3, zi3, zc4, zi4, zc5, zi5, e2', hc']
      exact d1
    · have r121 : D 121 = up1 (M 121) 9 (nI (n + 12)) := by rw [d2, r 121 (by decide) (by decide)]
      refine hI.tape (fun k k1 k2 k3 k4 => by rw [d4 k k3 k4, r k k1 k2]) (by rw [r121, up1_ne (by decide)]) (by rw [r121, up1_ne (by decide)]) ⟨n + 12, by omega, ?_, ?_, fun i hi => ?_⟩
      · rw [d4 79 (by decide) (by decide), c2]
      · rw [r121, up1_eq]
      · rw [d3, d4 80 (by decide) (by decide), c3, b3, a3, r 129 (by decide) (by decide)]
        by_cases hi2 : i < n
        · obtain ⟨v, v1, v2, v3⟩ := e3 i hi2
          refine ⟨v, v1, ?_, ?_⟩
          · rw [if_neg (by omega), if_neg (by omega), if_neg (by omega)]; exact v2
          · rw [if_neg (by omega)]; exact v3
        · rw [if_pos (show n + 0 ≤ i ∧ i < n + 12 by omega)]
          by_cases h4 : i - n < 4
          · obtain ⟨v, v1, v2⟩ := byS_nI a (i - n)
            refine ⟨v, v1, ?_, ?_⟩
            · rw [if_neg (by omega), if_neg (by omega), if_pos (by omega)]; exact v2
            · rw [if_pos h4, show (i - n) % 4 = i - n by omega]; exact v2
          · by_cases h8 : i - n < 8
            · obtain ⟨v, v1, v2⟩ := byS_nI b (i - (n + 4))
              refine ⟨v, v1, ?_, ?_⟩
              · rw [if_neg (by omega), if_pos (by omega)]; exact v2
              · rw [if_neg h4, if_pos h8, show (i - n) % 4 = i - (n + 4) by omega]; exact v2
            · obtain ⟨v, v1, v2⟩ := byS_nI c (i - (n + 4 + 4))
              refine ⟨v, v1, ?_, ?_⟩
              · rw [if_pos (by omega)]; exact v2
              · rw [if_neg h4, if_neg h8, show (i - n) % 4 = i - (n + 4 + 4) by omega]; exact v2
  · have hc : (nI n + 12 ≤ (96 : Int32)) = False := eq_false (by rw [show nI n + 12 = nI (n + 12) from nI_add n 12]; exact nI_ge (a := 96) (by omega) (by omega))
    refine ⟨-1000000003, lp, M, M, ?_, ?_, hI⟩
    · simp only [fxX9_feed, am_gd_t, am_lt_e, am_bd_s, bi_0, bi_bz, bz0, bz1, nz2, nz10, nz100, hp_gi, hp_si, ↓reduceIte, if_true, if_false, Bool.true_eq_false, Bool.false_eq_true, eq_self, reduceCtorEq, zo0, zp0_0, zp0_1, zp0_2, zp0_4, zp0_5, zp0_6, zp0_7, zp0_8, zp0_9, zp0_10, zo1, zp1_0, zp1_5, zp1_6, zp1_9, zo16, zp16_0, zp16_5, zp16_6, zp16_9, zo31, zp31_0, zp31_5, zp31_6, zp31_9, zo46, zp46_0, zp46_1, zp46_2, zo79, zp79_0, zo83, zp83_0, zp83_1, zp83_2, zo87, zp87_0, zp87_1, zo121, zp121_0, zp121_1, zp121_2, zp121_4, zp121_5, zp121_6, zp121_7, zp121_8, zp121_16, zp121_17, zp121_18, zp121_21, zp121_23, zp121_24, zp121_25, zp121_26, zp121_27, zp121_28, zp121_29, zp121_30, zp121_31, zp121_32, zp121_33, zp121_34, zp79_2, zx2, zx13, zx14, zx15, zx17, zx28, zx29, zx30, zx32, zx43, zx44, zx45, zx47, zx78, zx80, zx84, zx85, zx86, zx88, zx89, zx90, zx99, zx120, zx122, zx123, zx124, zx125, zx126, zx127, zx128, zx129, zx130, zx131, zx132, zx133, zx134, zx135, zx136, zx137, zx138, zx139, zx140, zx141, zx142, zx143, zx144, zx145, zg2, zg17, zg32, zgo3, zgo18, zgo33, zl47, zlo, zlp, zlx, zs90, zso, zsp, zsx, zt99, zto, ztp1, ztp2, ztgo, ztso, ztsp, ztsx, zc0, zi0, zc1, zi1, zc2, zi2, zc3, zi3, zc4, zi4, zc5, zi5, e1, hc]
    · simp only [fxX10_feed, am_gd_t, am_lt_e, am_bd_s, bi_0, bi_bz, bz0, bz1, nz2, nz10, nz100, hp_gi, hp_si, ↓reduceIte, if_true, if_false, Bool.true_eq_false, Bool.false_eq_true, eq_self, reduceCtorEq, zo0, zp0_0, zp0_1, zp0_2, zp0_4, zp0_5, zp0_6, zp0_7, zp0_8, zp0_9, zp0_10, zo1, zp1_0, zp1_5, zp1_6, zp1_9, zo16, zp16_0, zp16_5, zp16_6, zp16_9, zo31, zp31_0, zp31_5, zp31_6, zp31_9, zo46, zp46_0, zp46_1, zp46_2, zo79, zp79_0, zo83, zp83_0, zp83_1, zp83_2, zo87, zp87_0, zp87_1, zo121, zp121_0, zp121_1, zp121_2, zp121_4, zp121_5, zp121_6, zp121_7, zp121_8, zp121_16, zp121_17, zp121_18, zp121_21, zp121_23, zp121_24, zp121_25, zp121_26, zp121_27, zp121_28, zp121_29, zp121_30, zp121_31, zp121_32, zp121_33, zp121_34, zp79_2, zx2, zx13, zx14, zx15, zx17, zx28, zx29, zx30, zx32, zx43, zx44, zx45, zx47, zx78, zx80, zx84, zx85, zx86, zx88, zx89, zx90, zx99, zx120, zx122, zx123, zx124, zx125, zx126, zx127, zx128, zx129, zx130, zx131, zx132, zx133, zx134, zx135, zx136, zx137, zx138, zx139, zx140, zx141, zx142, zx143, zx144, zx145, zg2, zg17, zg32, zgo3, zgo18, zgo33, zl47, zlo, zlp, zlx, zs90, zso, zsp, zsx, zt99, zto, ztp1, ztp2, ztgo, ztso, ztsp, ztsx, zc0, zi0, zc1, zi1, zc2, zi2, zc3, zi3, zc4, zi4, zc5, zi5, e2, hc]
