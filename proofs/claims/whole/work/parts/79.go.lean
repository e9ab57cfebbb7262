/-! ===== the reference's tape ===== -/
def gr (r : Nat → Int32) (nx fr tk vl ed cd am hd : Int32) (j : Nat) : Int32 := if j = 10 then nx else if j = 11 then fr else if j = 12 then tk else if j = 13 then vl else if j = 14 then ed else if j = 19 then cd else if j = 20 then am else if j = 22 then hd else r j
def GM (M : Mem) (nx fr tk vl ed cd am hd : Int32) (k j : Nat) : Int32 := if k = 121 then gr (M 121) nx fr tk vl ed cd am hd j else M k j
theorem gm_u10 (M : Mem) (nx fr tk vl ed cd am hd v : Int32) : am_up (GM M nx fr tk vl ed cd am hd) 121 10 v = GM M v fr tk vl ed cd am hd := by
  funext a c
  unfold am_up
  by_cases ha : a = 121
  · subst ha
    unfold GM gr
    by_cases hc : c = 10
    · subst hc; rfl
    · simp [hc]
  · unfold GM
    simp [ha]
theorem gm_10 (M : Mem) (nx fr tk vl ed cd am hd : Int32) : GM M nx fr tk vl ed cd am hd 121 10 = nx := Eq.trans rfl rfl
theorem gm_u11 (M : Mem) (nx fr tk vl ed cd am hd v : Int32) : am_up (GM M nx fr tk vl ed cd am hd) 121 11 v = GM M nx v tk vl ed cd am hd := by
  funext a c
  unfold am_up
  by_cases ha : a = 121
  · subst ha
    unfold GM gr
    by_cases hc : c = 11
    · subst hc; rfl
    · simp [hc]
  · unfold GM
    simp [ha]
theorem gm_11 (M : Mem) (nx fr tk vl ed cd am hd : Int32) : GM M nx fr tk vl ed cd am hd 121 11 = fr := Eq.trans rfl rfl
theorem gm_u12 (M : Mem) (nx fr tk vl ed cd am hd v : Int32) : am_up (GM M nx fr tk vl ed cd am hd) 121 12 v = GM M nx fr v vl ed cd am hd := by
  funext a c
  unfold am_up
  by_cases ha : a = 121
  · subst ha
    unfold GM gr
    by_cases hc : c = 12
    · subst hc; rfl
    · simp [hc]
  · unfold GM
    simp [ha]
theorem gm_12 (M : Mem) (nx fr tk vl ed cd am hd : Int32) : GM M nx fr tk vl ed cd am hd 121 12 = tk := Eq.trans rfl rfl
theorem gm_u13 (M : Mem) (nx fr tk vl ed cd am hd v : Int32) : am_up (GM M nx fr tk vl ed cd am hd) 121 13 v = GM M nx fr tk v ed cd am hd := by
  funext a c
  unfold am_up
  by_cases ha : a = 121
  · subst ha
    unfold GM gr
    by_cases hc : c = 13
    · subst hc; rfl
    · simp [hc]
  · unfold GM
    simp [ha]
theorem gm_13 (M : Mem) (nx fr tk vl ed cd am hd : Int32) : GM M nx fr tk vl ed cd am hd 121 13 = vl := Eq.trans rfl rfl
theorem gm_u14 (M : Mem) (nx fr tk vl ed cd am hd v : Int32) : am_up (GM M nx fr tk vl ed cd am hd) 121 14 v = GM M nx fr tk vl v cd am hd := by
  funext a c
  unfold am_up
  by_cases ha : a = 121
  · subst ha
    unfold GM gr
    by_cases hc : c = 14
    · subst hc; rfl
    · simp [hc]
  · unfold GM
    simp [ha]
theorem gm_14 (M : Mem) (nx fr tk vl ed cd am hd : Int32) : GM M nx fr tk vl ed cd am hd 121 14 = ed := Eq.trans rfl rfl
theorem gm_u19 (M : Mem) (nx fr tk vl ed cd am hd v : Int32) : am_up (GM M nx fr tk vl ed cd am hd) 121 19 v = GM M nx fr tk vl ed v am hd := by
  funext a c
  unfold am_up
  by_cases ha : a = 121
  · subst ha
    unfold GM gr
    by_cases hc : c = 19
    · subst hc; rfl
    · simp [hc]
  · unfold GM
    simp [ha]
theorem gm_19 (M : Mem) (nx fr tk vl ed cd am hd : Int32) : GM M nx fr tk vl ed cd am hd 121 19 = cd := Eq.trans rfl rfl
theorem gm_u20 (M : Mem) (nx fr tk vl ed cd am hd v : Int32) : am_up (GM M nx fr tk vl ed cd am hd) 121 20 v = GM M nx fr tk vl ed cd v hd := by
  funext a c
  unfold am_up
  by_cases ha : a = 121
  · subst ha
    unfold GM gr
    by_cases hc : c = 20
    · subst hc; rfl
    · simp [hc]
  · unfold GM
    simp [ha]
theorem gm_20 (M : Mem) (nx fr tk vl ed cd am hd : Int32) : GM M nx fr tk vl ed cd am hd 121 20 = am := Eq.trans rfl rfl
theorem gm_u22 (M : Mem) (nx fr tk vl ed cd am hd v : Int32) : am_up (GM M nx fr tk vl ed cd am hd) 121 22 v = GM M nx fr tk vl ed cd am v := by
  funext a c
  unfold am_up
  by_cases ha : a = 121
  · subst ha
    unfold GM gr
    by_cases hc : c = 22
    · subst hc; rfl
    · simp [hc]
  · unfold GM
    simp [ha]
theorem gm_22 (M : Mem) (nx fr tk vl ed cd am hd : Int32) : GM M nx fr tk vl ed cd am hd 121 22 = hd := Eq.trans rfl rfl
theorem gm_3 (M : Mem) (nx fr tk vl ed cd am hd : Int32) : GM M nx fr tk vl ed cd am hd 121 3 = M 121 3 := Eq.trans rfl rfl
theorem gm_9 (M : Mem) (nx fr tk vl ed cd am hd : Int32) : GM M nx fr tk vl ed cd am hd 121 9 = M 121 9 := Eq.trans rfl rfl
theorem gm_15 (M : Mem) (nx fr tk vl ed cd am hd : Int32) : GM M nx fr tk vl ed cd am hd 121 15 = M 121 15 := Eq.trans rfl rfl
theorem gm_35 (M : Mem) (nx fr tk vl ed cd am hd : Int32) : GM M nx fr tk vl ed cd am hd 121 35 = M 121 35 := Eq.trans rfl rfl
theorem gm_122 (M : Mem) (nx fr tk vl ed cd am hd : Int32) : GM M nx fr tk vl ed cd am hd 122 = M 122 := Eq.trans rfl rfl
theorem gm_129 (M : Mem) (nx fr tk vl ed cd am hd : Int32) : GM M nx fr tk vl ed cd am hd 129 = M 129 := Eq.trans rfl rfl
theorem gm_130 (M : Mem) (nx fr tk vl ed cd am hd : Int32) : GM M nx fr tk vl ed cd am hd 130 = M 130 := Eq.trans rfl rfl
theorem gm_131 (M : Mem) (nx fr tk vl ed cd am hd : Int32) : GM M nx fr tk vl ed cd am hd 131 = M 131 := Eq.trans rfl rfl
theorem gm_132 (M : Mem) (nx fr tk vl ed cd am hd : Int32) : GM M nx fr tk vl ed cd am hd 132 = M 132 := Eq.trans rfl rfl
theorem gm_133 (M : Mem) (nx fr tk vl ed cd am hd : Int32) : GM M nx fr tk vl ed cd am hd 133 = M 133 := Eq.trans rfl rfl
theorem gm_134 (M : Mem) (nx fr tk vl ed cd am hd : Int32) : GM M nx fr tk vl ed cd am hd 134 = M 134 := Eq.trans rfl rfl
theorem gm_ou {M : Mem} {nx fr tk vl ed cd am hd v : Int32} {k j : Nat} (h : k ≠ 121) : am_up (GM M nx fr tk vl ed cd am hd) k j v = GM (am_up M k j v) nx fr tk vl ed cd am hd := by
  funext a c
  by_cases ha : a = 121
  · subst ha
    unfold GM
    rw [if_pos rfl, am_up_ne (Ne.symm h), am_up_ne (Ne.symm h), if_pos rfl]
  · unfold GM
    rw [if_neg ha]
    unfold am_up
    simp [ha]
theorem gm_o {M : Mem} {nx fr tk vl ed cd am hd : Int32} {k : Nat} (h : k ≠ 121) : GM M nx fr tk vl ed cd am hd k = M k := by
  funext c
  unfold GM; rw [if_neg h]
def TpR (M : Mem) (b : Nat → Nat) (n : Nat) : Prop := n ≤ 96 ∧ M 121 9 = nI n ∧ ∀ i, i < n → M 129 i = nI (b i) ∧ b i ≤ 255
theorem q_isLetter {lp n i : Nat} {b : Nat → Nat} {M : Mem} {nx fr tk vl ed cd am hd : Int32} (hB : TpR M b n) (hi : i ≤ 96) : fxX10_isLetter (some 121) (nI i) (hp lp (GM M nx fr tk vl ed cd am hd)) = some (bi (decide (so b n i = 1)), hp lp (GM M nx fr tk vl ed cd am hd)) := by
  obtain ⟨hn, h1, h2⟩ := hB
  unfold so
  by_cases hin : i < n
  · obtain ⟨e1, e2⟩ := h2 i hin
    have c1 : (nI (b i) < (97 : Int32)) = (b i < 97) := propext (nI_ltI (b := 97) (by omega) (by decide))
    have c2 : ((122 : Int32) < nI (b i)) = (122 < b i) := propext (nI_ltI (a := 122) (by decide) (by omega))
    rw [if_pos hin]
    by_cases q : 97 ≤ b i ∧ b i ≤ 122
    · have d1 := c1.trans (eq_false (show ¬ b i < 97 by omega))
      have d2 := c2.trans (eq_false (show ¬ 122 < b i by omega))
      rw [if_pos q]
      simp (disch := omega) only [fxX10_isLetter, zle, am_gd_t, am_lt_e, am_bd_s, bi_0, bi_bz, bz0, bz1, nz2, nz10, nz100, hp_gi, hp_si, ↓reduceIte, if_true, if_false, Bool.true_eq_false, Bool.false_eq_true, eq_self, reduceCtorEq, zo0, zp0_0, zp0_1, zp0_2, zp0_4, zp0_5, zp0_6, zp0_7, zp0_8, zp0_9, zp0_10, zo1, zp1_0, zp1_5, zp1_6, zp1_9, zo16, zp16_0, zp16_5, zp16_6, zp16_9, zo31, zp31_0, zp31_5, zp31_6, zp31_9, zo46, zp46_0, zp46_1, zp46_2, zo79, zp79_0, zo83, zp83_0, zp83_1, zp83_2, zo87, zp87_0, zp87_1, zo121, zp121_0, zp121_1, zp121_2, zp121_4, zp121_5, zp121_6, zp121_7, zp121_8, zp121_16, zp121_17, zp121_18, zp121_21, zp121_23, zp121_24, zp121_25, zp121_26, zp121_27, zp121_28, zp121_29, zp121_30, zp121_31, zp121_32, zp121_33, zp121_34, zp79_2, zx2, zx13, zx14, zx15, zx17, zx28, zx29, zx30, zx32, zx43, zx44, zx45, zx47, zx78, zx80, zx84, zx85, zx86, zx88, zx89, zx90, zx99, zx120, zx122, zx123, zx124, zx125, zx126, zx127, zx128, zx129, zx130, zx131, zx132, zx133, zx134, zx135, zx136, zx137, zx138, zx139, zx140, zx141, zx142, zx143, zx144, zx145, zg2, zg17, zg32, zgo3, zgo18, zgo33, zl47, zlo, zlp, zlx, zs90, zso, zsp, zsx, zt99, zto, ztp1, ztp2, ztgo, ztso, ztsp, ztsx, zc0, zi0, zc1, zi1, zc2, zi2, zc3, zi3, zc4, zi4, zc5, zi5, zin, zcl, nI_1, Bool.and_self, Bool.true_and, Bool.and_true, gm_9, gm_129, h1, e1, d1, d2]
      rfl
    · have hne : ¬ (if 48 ≤ b i ∧ b i ≤ 57 then 2 else 3) = 1 := by split <;> omega
      rw [if_neg q, decide_eq_false hne]
      by_cases q1 : b i < 97
      · have d1 := c1.trans (eq_true q1)
        simp (disch := omega) only [fxX10_isLetter, zle, am_gd_t, am_lt_e, am_bd_s, bi_0, bi_bz, bz0, bz1, nz2, nz10, nz100, hp_gi, hp_si, ↓reduceIte, if_true, if_false, Bool.true_eq_false, Bool.false_eq_true, eq_self, reduceCtorEq, zo0, zp0_0, zp0_1, zp0_2, zp0_4, zp0_5, zp0_6, zp0_7, zp0_8, zp0_9, zp0_10, zo1, zp1_0, zp1_5, zp1_6, zp1_9, zo16, zp16_0, zp16_5, zp16_6, zp16_9, zo31, zp31_0, zp31_5, zp31_6, zp31_9, zo46, zp46_0, zp46_1, zp46_2, zo79, zp79_0, zo83, zp83_0, zp83_1, zp83_2, zo87, zp87_0, zp87_1, zo121, zp121_0, zp121_1, zp121_2, zp121_4, zp121_5, zp121_6, zp121_7, zp121_8, zp121_16, zp121_17, zp121_18, zp121_21, zp121_23, zp121_24, zp121_25, zp121_26, zp121_27, zp121_28, zp121_29, zp121_30, zp121_31, zp121_32, zp121_33, zp121_34, zp79_2, zx2, zx13, zx14, zx15, zx17, zx28, zx29, zx30, zx32, zx43, zx44, zx45, zx47, zx78, zx80, zx84, zx85, zx86, zx88, zx89, zx90, zx99, zx120, zx122, zx123, zx124, zx125, zx126, zx127, zx128, zx129, zx130, zx131, zx132, zx133, zx134, zx135, zx136, zx137, zx138, zx139, zx140, zx141, zx142, zx143, zx144, zx145, zg2, zg17, zg32, zgo3, zgo18, zgo33, zl47, zlo, zlp, zlx, zs90, zso, zsp, zsx, zt99, zto, ztp1, ztp2, ztgo, ztso, ztsp, ztsx, zc0, zi0, zc1, zi1, zc2, zi2, zc3, zi3, zc4, zi4, zc5, zi5, zin, zcl, nI_1, Bool.and_self, Bool.true_and, Bool.and_true, gm_9, gm_129, h1, e1, d1]
        rfl
      · have d1 := c1.trans (eq_false q1)
        have d2 := c2.trans (eq_true (show 122 < b i by omega))
        simp (disch := omega) only [fxX10_isLetter, zle, am_gd_t, am_lt_e, am_bd_s, bi_0, bi_bz, bz0, bz1, nz2, nz10, nz100, hp_gi, hp_si, ↓reduceIte, if_true, if_false, Bool.true_eq_false, Bool.false_eq_true, eq_self, reduceCtorEq, zo0, zp0_0, zp0_1, zp0_2, zp0_4, zp0_5, zp0_6, zp0_7, zp0_8, zp0_9, zp0_10, zo1, zp1_0, zp1_5, zp1_6, zp1_9, zo16, zp16_0, zp16_5, zp16_6, zp16_9, zo31, zp31_0, zp31_5, zp31_6, zp31_9, zo46, zp46_0, zp46_1, zp46_2, zo79, zp79_0, zo83, zp83_0, zp83_1, zp83_2, zo87, zp87_0, zp87_1, zo121, zp121_0, zp121_1, zp121_2, zp121_4, zp121_5, zp121_6, zp121_7, zp121_8, zp121_16, zp121_17, zp121_18, zp121_21, zp121_23, zp121_24, zp121_25, zp121_26, zp121_27, zp121_28, zp121_29, zp121_30, zp121_31, zp121_32, zp121_33, zp121_34, zp79_2, zx2, zx13, zx14, zx15, zx17, zx28, zx29, zx30, zx32, zx43, zx44, zx45, zx47, zx78, zx80, zx84, zx85, zx86, zx88, zx89, zx90, zx99, zx120, zx122, zx123, zx124, zx125, zx126, zx127, zx128, zx129, zx130, zx131, zx132, zx133, zx134, zx135, zx136, zx137, zx138, zx139, zx140, zx141, zx142, zx143, zx144, zx145, zg2, zg17, zg32, zgo3, zgo18, zgo33, zl47, zlo, zlp, zlx, zs90, zso, zsp, zsx, zt99, zto, ztp1, ztp2, ztgo, ztso, ztsp, ztsx, zc0, zi0, zc1, zi1, zc2, zi2, zc3, zi3, zc4, zi4, zc5, zi5, zin, zcl, nI_1, Bool.and_self, Bool.true_and, Bool.and_true, gm_9, gm_129, h1, e1, d1, d2]
        rfl
  · rw [if_neg hin]
    simp (disch := omega) only [fxX10_isLetter, zle', am_gd_t, am_lt_e, am_bd_s, bi_0, bi_bz, bz0, bz1, nz2, nz10, nz100, hp_gi, hp_si, ↓reduceIte, if_true, if_false, Bool.true_eq_false, Bool.false_eq_true, eq_self, reduceCtorEq, zo0, zp0_0, zp0_1, zp0_2, zp0_4, zp0_5, zp0_6, zp0_7, zp0_8, zp0_9, zp0_10, zo1, zp1_0, zp1_5, zp1_6, zp1_9, zo16, zp16_0, zp16_5, zp16_6, zp16_9, zo31, zp31_0, zp31_5, zp31_6, zp31_9, zo46, zp46_0, zp46_1, zp46_2, zo79, zp79_0, zo83, zp83_0, zp83_1, zp83_2, zo87, zp87_0, zp87_1, zo121, zp121_0, zp121_1, zp121_2, zp121_4, zp121_5, zp121_6, zp121_7, zp121_8, zp121_16, zp121_17, zp121_18, zp121_21, zp121_23, zp121_24, zp121_25, zp121_26, zp121_27, zp121_28, zp121_29, zp121_30, zp121_31, zp121_32, zp121_33, zp121_34, zp79_2, zx2, zx13, zx14, zx15, zx17, zx28, zx29, zx30, zx32, zx43, zx44, zx45, zx47, zx78, zx80, zx84, zx85, zx86, zx88, zx89, zx90, zx99, zx120, zx122, zx123, zx124, zx125, zx126, zx127, zx128, zx129, zx130, zx131, zx132, zx133, zx134, zx135, zx136, zx137, zx138, zx139, zx140, zx141, zx142, zx143, zx144, zx145, zg2, zg17, zg32, zgo3, zgo18, zgo33, zl47, zlo, zlp, zlx, zs90, zso, zsp, zsx, zt99, zto, ztp1, ztp2, ztgo, ztso, ztsp, ztsx, zc0, zi0, zc1, zi1, zc2, zi2, zc3, zi3, zc4, zi4, zc5, zi5, gm_9, h1]
    rfl
theorem q_isFigure {lp n i : Nat} {b : Nat → Nat} {M : Mem} {nx fr tk vl ed cd am hd : Int32} (hB : TpR M b n) (hi : i ≤ 96) : fxX10_isFigure (some 121) (nI i) (hp lp (GM M nx fr tk vl ed cd am hd)) = some (bi (decide (so b n i = 2)), hp lp (GM M nx fr tk vl ed cd am hd)) := by
  obtain ⟨hn, h1, h2⟩ := hB
  unfold so
  by_cases hin : i < n
  · obtain ⟨e1, e2⟩ := h2 i hin
    have c1 : (nI (b i) < (48 : Int32)) = (b i < 48) := propext (nI_ltI (b := 48) (by omega) (by decide))
    have c2 : ((57 : Int32) < nI (b i)) = (57 < b i) := propext (nI_ltI (a := 57) (by decide) (by omega))
    rw [if_pos hin]
    by_cases q : 48 ≤ b i ∧ b i ≤ 57
    · have d1 := c1.trans (eq_false (show ¬ b i < 48 by omega))
      have d2 := c2.trans (eq_false (show ¬ 57 < b i by omega))
      rw [if_neg (show ¬ (97 ≤ b i ∧ b i ≤ 122) by omega), if_pos q]
      simp (disch := omega) only [fxX10_isFigure, zle, am_gd_t, am_lt_e, am_bd_s, bi_0, bi_bz, bz0, bz1, nz2, nz10, nz100, hp_gi, hp_si, ↓reduceIte, if_true, if_false, Bool.true_eq_false, Bool.false_eq_true, eq_self, reduceCtorEq, zo0, zp0_0, zp0_1, zp0_2, zp0_4, zp0_5, zp0_6, zp0_7, zp0_8, zp0_9, zp0_10, zo1, zp1_0, zp1_5, zp1_6, zp1_9, zo16, zp16_0, zp16_5, zp16_6, zp16_9, zo31, zp31_0, zp31_5, zp31_6, zp31_9, zo46, zp46_0, zp46_1, zp46_2, zo79, zp79_0, zo83, zp83_0, zp83_1, zp83_2, zo87, zp87_0, zp87_1, zo121, zp121_0, zp121_1, zp121_2, zp121_4, zp121_5, zp121_6, zp121_7, zp121_8, zp121_16, zp121_17, zp121_18, zp121_21, zp121_23, zp121_24, zp121_25, zp121_26, zp121_27, zp121_28, zp121_29, zp121_30, zp121_31, zp121_32, zp121_33, zp121_34, zp79_2, zx2, zx13, zx14, zx15, zx17, zx28, zx29, zx30, zx32, zx43, zx44, zx45, zx47, zx78, zx80, zx84, zx85, zx86, zx88, zx89, zx90, zx99, zx120, zx122, zx123, zx124, zx125, zx126, zx127, zx128, zx129, zx130, zx131, zx132, zx133, zx134, zx135, zx136, zx137, zx138, zx139, zx140, zx141, zx142, zx143, zx144, zx145, zg2, zg17, zg32, zgo3, zgo18, zgo33, zl47, zlo, zlp, zlx, zs90, zso, zsp, zsx, zt99, zto, ztp1, ztp2, ztgo, ztso, ztsp, ztsx, zc0, zi0, zc1, zi1, zc2, zi2, zc3, zi3, zc4, zi4, zc5, zi5, zin, zcl, nI_1, Bool.and_self, Bool.true_and, Bool.and_true, gm_9, gm_129, h1, e1, d1, d2]
      rfl
    · have hne : ¬ (if 97 ≤ b i ∧ b i ≤ 122 then 1 else if 48 ≤ b i ∧ b i ≤ 57 then 2 else 3) = 2 := by
        rw [if_neg q]; split <;> omega
      rw [decide_eq_false hne]
      by_cases q1 : b i < 48
      · have d1 := c1.trans (eq_true q1)
        simp (disch := omega) only [fxX10_isFigure, zle, am_gd_t, am_lt_e, am_bd_s, bi_0, bi_bz, bz0, bz1, nz2, nz10, nz100, hp_gi, hp_si, ↓reduceIte, if_true, if_false, Bool.true_eq_false, Bool.false_eq_true, eq_self, reduceCtorEq, zo0, zp0_0, zp0_1, zp0_2, zp0_4, zp0_5, zp0_6, zp0_7, zp0_8, zp0_9, zp0_10, zo1, zp1_0, zp1_5, zp1_6, zp1_9, zo16, zp16_0, zp16_5, zp16_6, zp16_9, zo31, zp31_0, zp31_5, zp31_6, zp31_9, zo46, zp46_0, zp46_1, zp46_2, zo79, zp79_0, zo83, zp83_0, zp83_1, zp83_2, zo87, zp87_0, zp87_1, zo121, zp121_0, zp121_1, zp121_2, zp121_4, zp121_5, zp121_6, zp121_7, zp121_8, zp121_16, zp121_17, zp121_18, zp121_21, zp121_23, zp121_24, zp121_25, zp121_26, zp121_27, zp121_28, zp121_29, zp121_30, zp121_31, zp121_32, zp121_33, zp121_34, zp79_2, zx2, zx13, zx14, zx15, zx17, zx28, zx29, zx30, zx32, zx43, zx44, zx45, zx47, zx78, zx80, zx84, zx85, zx86, zx88, zx89, zx90, zx99, zx120, zx122, zx123, zx124, zx125, zx126, zx127, zx128, zx129, zx130, zx131, zx132, zx133, zx134, zx135, zx136, zx137, zx138, zx139, zx140, zx141, zx142, zx143, zx144, zx145, zg2, zg17, zg32, zgo3, zgo18, zgo33, zl47, zlo, zlp, zlx, zs90, zso, zsp, zsx, zt99, zto, ztp1, ztp2, ztgo, ztso, ztsp, ztsx, zc0, zi0, zc1, zi1, zc2, zi2, zc3, zi3, zc4, zi4, zc5, zi5, zin, zcl, nI_1, Bool.and_self, Bool.true_and, Bool.and_true, gm_9, gm_129, h1, e1, d1]
        rfl
      · have d1 := c1.trans (eq_false q1)
        have d2 := c2.trans (eq_true (show 57 < b i by omega))
        simp (disch := omega) only [fxX10_isFigure, zle, am_gd_t, am_lt_e, am_bd_s, bi_0, bi_bz, bz0, bz1, nz2, nz10, nz100, hp_gi, hp_si, ↓reduceIte, if_true, if_false, Bool.true_eq_false, Bool.false_eq_true, eq_self, reduceCtorEq, zo0, zp0_0, zp0_1, zp0_2, zp0_4, zp0_5, zp0_6, zp0_7, zp0_8, zp0_9, zp0_10, zo1, zp1_0, zp1_5, zp1_6, zp1_9, zo16, zp16_0, zp16_5, zp16_6, zp16_9, zo31, zp31_0, zp31_5, zp31_6, zp31_9, zo46, zp46_0, zp46_1, zp46_2, zo79, zp79_0, zo83, zp83_0, zp83_1, zp83_2, zo87, zp87_0, zp87_1, zo121, zp121_0, zp121_1, zp121_2, zp121_4, zp121_5, zp121_6, zp121_7, zp121_8, zp121_16, zp121_17, zp121_18, zp121_21, zp121_23, zp121_24, zp121_25, zp121_26, zp121_27, zp121_28, zp121_29, zp121_30, zp121_31, zp121_32, zp121_33, zp121_34, zp79_2, zx2, zx13, zx14, zx15, zx17, zx28, zx29, zx30, zx32, zx43, zx44, zx45, zx47, zx78, zx80, zx84, zx85, zx86, zx88, zx89, zx90, zx99, zx120, zx122, zx123, zx124, zx125, zx126, zx127, zx128, zx129, zx130, zx131, zx132, zx133, zx134, zx135, zx136, zx137, zx138, zx139, zx140, zx141, zx142, zx143, zx144, zx145, zg2, zg17, zg32, zgo3, zgo18, zgo33, zl47, zlo, zlp, zlx, zs90, zso, zsp, zsx, zt99, zto, ztp1, ztp2, ztgo, ztso, ztsp, ztsx, zc0, zi0, zc1, zi1, zc2, zi2, zc3, zi3, zc4, zi4, zc5, zi5, zin, zcl, nI_1, Bool.and_self, Bool.true_and, Bool.and_true, gm_9, gm_129, h1, e1, d1, d2]
        rfl
  · rw [if_neg hin]
    simp (disch := omega) only [fxX10_isFigure, zle', am_gd_t, am_lt_e, am_bd_s, bi_0, bi_bz, bz0, bz1, nz2, nz10, nz100, hp_gi, hp_si, ↓reduceIte, if_true, if_false, Bool.true_eq_false, Bool.false_eq_true, eq_self, reduceCtorEq, zo0, zp0_0, zp0_1, zp0_2, zp0_4, zp0_5, zp0_6, zp0_7, zp0_8, zp0_9, zp0_10, zo1, zp1_0, zp1_5, zp1_6, zp1_9, zo16, zp16_0, zp16_5, zp16_6, zp16_9, zo31, zp31_0, zp31_5, zp31_6, zp31_9, zo46, zp46_0, zp46_1, zp46_2, zo79, zp79_0, zo83, zp83_0, zp83_1, zp83_2, zo87, zp87_0, zp87_1, zo121, zp121_0, zp121_1, zp121_2, zp121_4, zp121_5, zp121_6, zp121_7, zp121_8, zp121_16, zp121_17, zp121_18, zp121_21, zp121_23, zp121_24, zp121_25, zp121_26, zp121_27, zp121_28, zp121_29, zp121_30, zp121_31, zp121_32, zp121_33, zp121_34, zp79_2, zx2, zx13, zx14, zx15, zx17, zx28, zx29, zx30, zx32, zx43, zx44, zx45, zx47, zx78, zx80, zx84, zx85, zx86, zx88, zx89, zx90, zx99, zx120, zx122, zx123, zx124, zx125, zx126, zx127, zx128, zx129, zx130, zx131, zx132, zx133, zx134, zx135, zx136, zx137, zx138, zx139, zx140, zx141, zx142, zx143, zx144, zx145, zg2, zg17, zg32, zgo3, zgo18, zgo33, zl47, zlo, zlp, zlx, zs90, zso, zsp, zsx, zt99, zto, ztp1, ztp2, ztgo, ztso, ztsp, ztsx, zc0, zi0, zc1, zi1, zc2, zi2, zc3, zi3, zc4, zi4, zc5, zi5, gm_9, h1]
    rfl
theorem go_sk {lp n : Nat} {b : Nat → Nat} {M : Mem} {fr tk vl ed cd am hd : Int32} (hB : TpR M b n) : ∀ k i fuel, n ≤ i + k → i ≤ n → k < fuel → fxX10_go_b0 fuel (some 121) (hp lp (GM M (nI i) fr tk vl ed cd am hd)) = fxX10_go_b38 (some 121) (hp lp (GM M (nI (skB b n k i)) fr tk vl ed cd am hd)) := by
  obtain ⟨hn, h1, h2⟩ := hB
  intro k
  induction k with
  | zero =>
    intro i fuel h3 h4 hf
    obtain ⟨fuel, rfl⟩ : ∃ f, fuel = f + 1 := ⟨fuel - 1, by omega⟩
    obtain rfl : i = n := by omega
    simp (disch := omega) only [fxX10_go_b0, am_gd_t, am_lt_e, am_bd_s, bi_0, bi_bz, bz0, bz1, nz2, nz10, nz100, hp_gi, hp_si, ↓reduceIte, if_true, if_false, Bool.true_eq_false, Bool.false_eq_true, eq_self, reduceCtorEq, zo0, zp0_0, zp0_1, zp0_2, zp0_4, zp0_5, zp0_6, zp0_7, zp0_8, zp0_9, zp0_10, zo1, zp1_0, zp1_5, zp1_6, zp1_9, zo16, zp16_0, zp16_5, zp16_6, zp16_9, zo31, zp31_0, zp31_5, zp31_6, zp31_9, zo46, zp46_0, zp46_1, zp46_2, zo79, zp79_0, zo83, zp83_0, zp83_1, zp83_2, zo87, zp87_0, zp87_1, zo121, zp121_0, zp121_1, zp121_2, zp121_4, zp121_5, zp121_6, zp121_7, zp121_8, zp121_16, zp121_17, zp121_18, zp121_21, zp121_23, zp121_24, zp121_25, zp121_26, zp121_27, zp121_28, zp121_29, zp121_30, zp121_31, zp121_32, zp121_33, zp121_34, zp79_2, zx2, zx13, zx14, zx15, zx17, zx28, zx29, zx30, zx32, zx43, zx44, zx45, zx47, zx78, zx80, zx84, zx85, zx86, zx88, zx89, zx90, zx99, zx120, zx122, zx123, zx124, zx125, zx126, zx127, zx128, zx129, zx130, zx131, zx132, zx133, zx134, zx135, zx136, zx137, zx138, zx139, zx140, zx141, zx142, zx143, zx144, zx145, zg2, zg17, zg32, zgo3, zgo18, zgo33, zl47, zlo, zlp, zlx, zs90, zso, zsp, zsx, zt99, zto, ztp1, ztp2, ztgo, ztso, ztsp, ztsx, zc0, zi0, zc1, zi1, zc2, zi2, zc3, zi3, zc4, zi4, zc5, zi5, gm_9, gm_10, h1, zle', skB]
  | succ k ih =>
    intro i fuel h3 h4 hf
    obtain ⟨fuel, rfl⟩ : ∃ f, fuel = f + 1 := ⟨fuel - 1, by omega⟩
    unfold skB
    by_cases hin : i < n
    · obtain ⟨e1, e2⟩ := h2 i hin
      have c1 : (nI (b i) = (32 : Int32)) = (b i = 32) := propext (nI_eq (b := 32) (by omega) (by decide))
      by_cases h32 : b i = 32
      · rw [if_pos ⟨hin, h32⟩, ← ih (i + 1) fuel (by omega) (by omega) (by omega)]
        have d := c1.trans (eq_true h32)
        simp (disch := omega) only [fxX10_go_b0, am_gd_t, am_lt_e, am_bd_s, bi_0, bi_bz, bz0, bz1, nz2, nz10, nz100, hp_gi, hp_si, ↓reduceIte, if_true, if_false, Bool.true_eq_false, Bool.false_eq_true, eq_self, reduceCtorEq, zo0, zp0_0, zp0_1, zp0_2, zp0_4, zp0_5, zp0_6, zp0_7, zp0_8, zp0_9, zp0_10, zo1, zp1_0, zp1_5, zp1_6, zp1_9, zo16, zp16_0, zp16_5, zp16_6, zp16_9, zo31, zp31_0, zp31_5, zp31_6, zp31_9, zo46, zp46_0, zp46_1, zp46_2, zo79, zp79_0, zo83, zp83_0, zp83_1, zp83_2, zo87, zp87_0, zp87_1, zo121, zp121_0, zp121_1, zp121_2, zp121_4, zp121_5, zp121_6, zp121_7, zp121_8, zp121_16, zp121_17, zp121_18, zp121_21, zp121_23, zp121_24, zp121_25, zp121_26, zp121_27, zp121_28, zp121_29, zp121_30, zp121_31, zp121_32, zp121_33, zp121_34, zp79_2, zx2, zx13, zx14, zx15, zx17, zx28, zx29, zx30, zx32, zx43, zx44, zx45, zx47, zx78, zx80, zx84, zx85, zx86, zx88, zx89, zx90, zx99, zx120, zx122, zx123, zx124, zx125, zx126, zx127, zx128, zx129, zx130, zx131, zx132, zx133, zx134, zx135, zx136, zx137, zx138, zx139, zx140, zx141, zx142, zx143, zx144, zx145, zg2, zg17, zg32, zgo3, zgo18, zgo33, zl47, zlo, zlp, zlx, zs90, zso, zsp, zsx, zt99, zto, ztp1, ztp2, ztgo, ztso, ztsp, ztsx, zc0, zi0, zc1, zi1, zc2, zi2, zc3, zi3, zc4, zi4, zc5, zi5, zin, zcl, nI_1, Bool.and_self, Bool.true_and, Bool.and_true, gm_9, gm_10, gm_129, gm_u10, h1, zle, e1, d]
      · rw [if_neg (fun q => h32 q.2)]
        have d := c1.trans (eq_false h32)
        simp (disch := omega) only [fxX10_go_b0, am_gd_t, am_lt_e, am_bd_s, bi_0, bi_bz, bz0, bz1, nz2, nz10, nz100, hp_gi, hp_si, ↓reduceIte, if_true, if_false, Bool.true_eq_false, Bool.false_eq_true, eq_self, reduceCtorEq, zo0, zp0_0, zp0_1, zp0_2, zp0_4, zp0_5, zp0_6, zp0_7, zp0_8, zp0_9, zp0_10, zo1, zp1_0, zp1_5, zp1_6, zp1_9, zo16, zp16_0, zp16_5, zp16_6, zp16_9, zo31, zp31_0, zp31_5, zp31_6, zp31_9, zo46, zp46_0, zp46_1, zp46_2, zo79, zp79_0, zo83, zp83_0, zp83_1, zp83_2, zo87, zp87_0, zp87_1, zo121, zp121_0, zp121_1, zp121_2, zp121_4, zp121_5, zp121_6, zp121_7, zp121_8, zp121_16, zp121_17, zp121_18, zp121_21, zp121_23, zp121_24, zp121_25, zp121_26, zp121_27, zp121_28, zp121_29, zp121_30, zp121_31, zp121_32, zp121_33, zp121_34, zp79_2, zx2, zx13, zx14, zx15, zx17, zx28, zx29, zx30, zx32, zx43, zx44, zx45, zx47, zx78, zx80, zx84, zx85, zx86, zx88, zx89, zx90, zx99, zx120, zx122, zx123, zx124, zx125, zx126, zx127, zx128, zx129, zx130, zx131, zx132, zx133, zx134, zx135, zx136, zx137, zx138, zx139, zx140, zx141, zx142, zx143, zx144, zx145, zg2, zg17, zg32, zgo3, zgo18, zgo33, zl47, zlo, zlp, zlx, zs90, zso, zsp, zsx, zt99, zto, ztp1, ztp2, ztgo, ztso, ztsp, ztsx, zc0, zi0, zc1, zi1, zc2, zi2, zc3, zi3, zc4, zi4, zc5, zi5, zin, zcl, nI_1, Bool.and_self, Bool.true_and, Bool.and_true, gm_9, gm_10, gm_129, h1, zle, e1, d]
    · rw [if_neg (fun q => hin q.1)]
      simp (disch := omega) only [fxX10_go_b0, am_gd_t, am_lt_e, am_bd_s, bi_0, bi_bz, bz0, bz1, nz2, nz10, nz100, hp_gi, hp_si, ↓reduceIte, if_true, if_false, Bool.true_eq_false, Bool.false_eq_true, eq_self, reduceCtorEq, zo0, zp0_0, zp0_1, zp0_2, zp0_4, zp0_5, zp0_6, zp0_7, zp0_8, zp0_9, zp0_10, zo1, zp1_0, zp1_5, zp1_6, zp1_9, zo16, zp16_0, zp16_5, zp16_6, zp16_9, zo31, zp31_0, zp31_5, zp31_6, zp31_9, zo46, zp46_0, zp46_1, zp46_2, zo79, zp79_0, zo83, zp83_0, zp83_1, zp83_2, zo87, zp87_0, zp87_1, zo121, zp121_0, zp121_1, zp121_2, zp121_4, zp121_5, zp121_6, zp121_7, zp121_8, zp121_16, zp121_17, zp121_18, zp121_21, zp121_23, zp121_24, zp121_25, zp121_26, zp121_27, zp121_28, zp121_29, zp121_30, zp121_31, zp121_32, zp121_33, zp121_34, zp79_2, zx2, zx13, zx14, zx15, zx17, zx28, zx29, zx30, zx32, zx43, zx44, zx45, zx47, zx78, zx80, zx84, zx85, zx86, zx88, zx89, zx90, zx99, zx120, zx122, zx123, zx124, zx125, zx126, zx127, zx128, zx129, zx130, zx131, zx132, zx133, zx134, zx135, zx136, zx137, zx138, zx139, zx140, zx141, zx142, zx143, zx144, zx145, zg2, zg17, zg32, zgo3, zgo18, zgo33, zl47, zlo, zlp, zlx, zs90, zso, zsp, zsx, zt99, zto, ztp1, ztp2, ztgo, ztso, ztsp, ztsx, zc0, zi0, zc1, zi1, zc2, zi2, zc3, zi3, zc4, zi4, zc5, zi5, gm_9, gm_10, h1, zle']
theorem go_lt {lp n st : Nat} {b : Nat → Nat} {M : Mem} {wb : Bool} {tk vl ed cd am hd : Int32} (hB : TpR M b n) (hst : st < n) : ∀ k i fuel, n ≤ i + k → i ≤ n → k < fuel → fxX10_go_b93 fuel (some 121) (bi wb) (hp lp (GM M (nI i) (nI st) tk vl ed cd am hd)) = some ((), hp lp (GM M (nI (exB b n 1 k i)) (nI st) (if wb = true then 4 else 1) (nI (b st)) (nI (exB b n 1 k i)) cd am hd)) := by
  have hn := hB.1
  have h2 := hB.2.2
  have fin : ∀ j, j ≤ n → (if bi wb = 0 then (fxX10_go_b127 (some 121) (1 : Int32) (some 121) (hp lp (GM M (nI j) (nI st) tk vl ed cd am hd))) else (fxX10_go_b127 (some 121) (4 : Int32) (some 121) (hp lp (GM M (nI j) (nI st) tk vl ed cd am hd)))) = some ((), hp lp (GM M (nI j) (nI st) (if wb = true then 4 else 1) (nI (b st)) (nI j) cd am hd)) := by
    intro j hj
    have e1 := (h2 st hst).1
    cases wb
    · simp (disch := omega) only [fxX10_go_b127, am_gd_t, am_lt_e, am_bd_s, bi_0, bi_bz, bz0, bz1, nz2, nz10, nz100, hp_gi, hp_si, ↓reduceIte, if_true, if_false, Bool.true_eq_false, Bool.false_eq_true, eq_self, reduceCtorEq, zo0, zp0_0, zp0_1, zp0_2, zp0_4, zp0_5, zp0_6, zp0_7, zp0_8, zp0_9, zp0_10, zo1, zp1_0, zp1_5, zp1_6, zp1_9, zo16, zp16_0, zp16_5, zp16_6, zp16_9, zo31, zp31_0, zp31_5, zp31_6, zp31_9, zo46, zp46_0, zp46_1, zp46_2, zo79, zp79_0, zo83, zp83_0, zp83_1, zp83_2, zo87, zp87_0, zp87_1, zo121, zp121_0, zp121_1, zp121_2, zp121_4, zp121_5, zp121_6, zp121_7, zp121_8, zp121_16, zp121_17, zp121_18, zp121_21, zp121_23, zp121_24, zp121_25, zp121_26, zp121_27, zp121_28, zp121_29, zp121_30, zp121_31, zp121_32, zp121_33, zp121_34, zp79_2, zx2, zx13, zx14, zx15, zx17, zx28, zx29, zx30, zx32, zx43, zx44, zx45, zx47, zx78, zx80, zx84, zx85, zx86, zx88, zx89, zx90, zx99, zx120, zx122, zx123, zx124, zx125, zx126, zx127, zx128, zx129, zx130, zx131, zx132, zx133, zx134, zx135, zx136, zx137, zx138, zx139, zx140, zx141, zx142, zx143, zx144, zx145, zg2, zg17, zg32, zgo3, zgo18, zgo33, zl47, zlo, zlp, zlx, zs90, zso, zsp, zsx, zt99, zto, ztp1, ztp2, ztgo, ztso, ztsp, ztsx, zc0, zi0, zc1, zi1, zc2, zi2, zc3, zi3, zc4, zi4, zc5, zi5, zin, zcl, nI_1, Bool.and_self, Bool.true_and, Bool.and_true, gm_10, gm_11, gm_129, gm_u12, gm_u13, gm_u14, e1]
    · simp (disch := omega) only [fxX10_go_b127, am_gd_t, am_lt_e, am_bd_s, bi_0, bi_bz, bz0, bz1, nz2, nz10, nz100, hp_gi, hp_si, ↓reduceIte, if_true, if_false, Bool.true_eq_false, Bool.false_eq_true, eq_self, reduceCtorEq, zo0, zp0_0, zp0_1, zp0_2, zp0_4, zp0_5, zp0_6, zp0_7, zp0_8, zp0_9, zp0_10, zo1, zp1_0, zp1_5, zp1_6, zp1_9, zo16, zp16_0, zp16_5, zp16_6, zp16_9, zo31, zp31_0, zp31_5, zp31_6, zp31_9, zo46, zp46_0, zp46_1, zp46_2, zo79, zp79_0, zo83, zp83_0, zp83_1, zp83_2, zo87, zp87_0, zp87_1, zo121, zp121_0, zp121_1, zp121_2, zp121_4, zp121_5, zp121_6, zp121_7, zp121_8, zp121_16, zp121_17, zp121_18, zp121_21, zp121_23, zp121_24, zp121_25, zp121_26, zp121_27, zp121_28, zp121_29, zp121_30, zp121_31, zp121_32, zp121_33, zp121_34, zp79_2, zx2, zx13, zx14, zx15, zx17, zx28, zx29, zx30, zx32, zx43, zx44, zx45, zx47, zx78, zx80, zx84, zx85, zx86, zx88, zx89, zx90, zx99, zx120, zx122, zx123, zx124, zx125, zx126, zx127, zx128, zx129, zx130, zx131, zx132, zx133, zx134, zx135, zx136, zx137, zx138, zx139, zx140, zx141, zx142, zx143, zx144, zx145, zg2, zg17, zg32, zgo3, zgo18, zgo33, zl47, zlo, zlp, zlx, zs90, zso, zsp, zsx, zt99, zto, ztp1, ztp2, ztgo, ztso, ztsp, ztsx, zc0, zi0, zc1, zi1, zc2, zi2, zc3, zi3, zc4, zi4, zc5, zi5, zin, zcl, nI_1, Bool.and_self, Bool.true_and, Bool.and_true, gm_10, gm_11, gm_129, gm_u12, gm_u13, gm_u14, e1]
  intro k
  induction k with
  | zero =>
    intro i fuel h3 h4 hf
    obtain ⟨fuel, rfl⟩ : ∃ f, fuel = f + 1 := ⟨fuel - 1, by omega⟩
    obtain rfl : i = n := by omega
    have hs : so b i i ≠ 1 := by rw [so_0.mpr (Nat.le_refl i)]; decide
    have hil := q_isLetter (lp := lp) (nx := nI i) (fr := nI st) (tk := tk) (vl := vl) (ed := ed) (cd := cd) (am := am) (hd := hd) hB (show i ≤ 96 by omega)
    rw [decide_eq_false hs] at hil
    have := fin i (Nat.le_refl _)
    simp only [fxX10_go_b93, am_gd_t, am_lt_e, am_bd_s, bi_0, bi_bz, bz0, bz1, nz2, nz10, nz100, hp_gi, hp_si, ↓reduceIte, if_true, if_false, Bool.true_eq_false, Bool.false_eq_true, eq_self, reduceCtorEq, zo0, zp0_0, zp0_1, zp0_2, zp0_4, zp0_5, zp0_6, zp0_7, zp0_8, zp0_9, zp0_10, zo1, zp1_0, zp1_5, zp1_6, zp1_9, zo16, zp16_0, zp16_5, zp16_6, zp16_9, zo31, zp31_0, zp31_5, zp31_6, zp31_9, zo46, zp46_0, zp46_1, zp46_2, zo79, zp79_0, zo83, zp83_0, zp83_1, zp83_2, zo87, zp87_0, zp87_1, zo121, zp121_0, zp121_1, zp121_2, zp121_4, zp121_5, zp121_6, zp121_7, zp121_8, zp121_16, zp121_17, zp121_18, zp121_21, zp121_23, zp121_24, zp121_25, zp121_26, zp121_27, zp121_28, zp121_29, zp121_30, zp121_31, zp121_32, zp121_33, zp121_34, zp79_2, zx2, zx13, zx14, zx15, zx17, zx28, zx29, zx30, zx32, zx43, zx44, zx45, zx47, zx78, zx80, zx84, zx85, zx86, zx88, zx89, zx90, zx99, zx120, zx122, zx123, zx124, zx125, zx126, zx127, zx128, zx129, zx130, zx131, zx132, zx133, zx134, zx135, zx136, zx137, zx138, zx139, zx140, zx141, zx142, zx143, zx144, zx145, zg2, zg17, zg32, zgo3, zgo18, zgo33, zl47, zlo, zlp, zlx, zs90, zso, zsp, zsx, zt99, zto, ztp1, ztp2, ztgo, ztso, ztsp, ztsx, zc0, zi0, zc1, zi1, zc2, zi2, zc3, zi3, zc4, zi4, zc5, zi5, gm_10, hil, exB]
    simp only [am_gd_t, am_lt_e, am_bd_s, bi_0, bi_bz, bz0, bz1, nz2, nz10, nz100, hp_gi, hp_si] at this
    exact this
  | succ k ih =>
    intro i fuel h3 h4 hf
    obtain ⟨fuel, rfl⟩ : ∃ f, fuel = f + 1 := ⟨fuel - 1, by omega⟩
    have hil := q_isLetter (lp := lp) (nx := nI i) (fr := nI st) (tk := tk) (vl := vl) (ed := ed) (cd := cd) (am := am) (hd := hd) hB (show i ≤ 96 by omega)
    unfold exB
    by_cases hs : so b n i = 1
    · have hin : i < n := by
        rcases Nat.lt_or_ge i n with q | q
        · exact q
        · rw [so_0.mpr q] at hs; cases hs
      rw [decide_eq_true hs] at hil
      rw [if_pos ⟨hin, hs⟩, ← ih (i + 1) fuel (by omega) (by omega) (by omega)]
      simp only [fxX10_go_b93, am_gd_t, am_lt_e, am_bd_s, bi_0, bi_bz, bz0, bz1, nz2, nz10, nz100, hp_gi, hp_si, ↓reduceIte, if_true, if_false, Bool.true_eq_false, Bool.false_eq_true, eq_self, reduceCtorEq, zo0, zp0_0, zp0_1, zp0_2, zp0_4, zp0_5, zp0_6, zp0_7, zp0_8, zp0_9, zp0_10, zo1, zp1_0, zp1_5, zp1_6, zp1_9, zo16, zp16_0, zp16_5, zp16_6, zp16_9, zo31, zp31_0, zp31_5, zp31_6, zp31_9, zo46, zp46_0, zp46_1, zp46_2, zo79, zp79_0, zo83, zp83_0, zp83_1, zp83_2, zo87, zp87_0, zp87_1, zo121, zp121_0, zp121_1, zp121_2, zp121_4, zp121_5, zp121_6, zp121_7, zp121_8, zp121_16, zp121_17, zp121_18, zp121_21, zp121_23, zp121_24, zp121_25, zp121_26, zp121_27, zp121_28, zp121_29, zp121_30, zp121_31, zp121_32, zp121_33, zp121_34, zp79_2, zx2, zx13, zx14, zx15, zx17, zx28, zx29, zx30, zx32, zx43, zx44, zx45, zx47, zx78, zx80, zx84, zx85, zx86, zx88, zx89, zx90, zx99, zx120, zx122, zx123, zx124, zx125, zx126, zx127, zx128, zx129, zx130, zx131, zx132, zx133, zx134, zx135, zx136, zx137, zx138, zx139, zx140, zx141, zx142, zx143, zx144, zx145, zg2, zg17, zg32, zgo3, zgo18, zgo33, zl47, zlo, zlp, zlx, zs90, zso, zsp, zsx, zt99, zto, ztp1, ztp2, ztgo, ztso, ztsp, ztsx, zc0, zi0, zc1, zi1, zc2, zi2, zc3, zi3, zc4, zi4, zc5, zi5, gm_10, gm_u10, hil, nI_1]
    · rw [decide_eq_false hs] at hil
      rw [if_neg (fun q => hs q.2)]
      have := fin i h4
      simp only [fxX10_go_b93, am_gd_t, am_lt_e, am_bd_s, bi_0, bi_bz, bz0, bz1, nz2, nz10, nz100, hp_gi, hp_si, ↓reduceIte, if_true, if_false, Bool.true_eq_false, Bool.false_eq_true, eq_self, reduceCtorEq, zo0, zp0_0, zp0_1, zp0_2, zp0_4, zp0_5, zp0_6, zp0_7, zp0_8, zp0_9, zp0_10, zo1, zp1_0, zp1_5, zp1_6, zp1_9, zo16, zp16_0, zp16_5, zp16_6, zp16_9, zo31, zp31_0, zp31_5, zp31_6, zp31_9, zo46, zp46_0, zp46_1, zp46_2, zo79, zp79_0, zo83, zp83_0, zp83_1, zp83_2, zo87, zp87_0, zp87_1, zo121, zp121_0, zp121_1, zp121_2, zp121_4, zp121_5, zp121_6, zp121_7, zp121_8, zp121_16, zp121_17, zp121_18, zp121_21, zp121_23, zp121_24, zp121_25, zp121_26, zp121_27, zp121_28, zp121_29, zp121_30, zp121_31, zp121_32, zp121_33, zp121_34, zp79_2, zx2, zx13, zx14, zx15, zx17, zx28, zx29, zx30, zx32, zx43, zx44, zx45, zx47, zx78, zx80, zx84, zx85, zx86, zx88, zx89, zx90, zx99, zx120, zx122, zx123, zx124, zx125, zx126, zx127, zx128, zx129, zx130, zx131, zx132, zx133, zx134, zx135, zx136, zx137, zx138, zx139, zx140, zx141, zx142, zx143, zx144, zx145, zg2, zg17, zg32, zgo3, zgo18, zgo33, zl47, zlo, zlp, zlx, zs90, zso, zsp, zsx, zt99, zto, ztp1, ztp2, ztgo, ztso, ztsp, ztsx, zc0, zi0, zc1, zi1, zc2, zi2, zc3, zi3, zc4, zi4, zc5, zi5, gm_10, hil]
      simp only [am_gd_t, am_lt_e, am_bd_s, bi_0, bi_bz, bz0, bz1, nz2, nz10, nz100, hp_gi, hp_si] at this
      exact this
theorem go_dg {lp n st : Nat} {b : Nat → Nat} {M : Mem} {wb : Bool} {tk ed cd am hd : Int32} (hB : TpR M b n) (hst : st < n) : ∀ k i fuel vl, n ≤ i + k → st ≤ i → i ≤ n → k < fuel → (i - st ≤ 4 → vl = nI (dv b st (i - st))) → ∃ vl', fxX10_go_b170 fuel (some 121) (bi wb) (hp lp (GM M (nI i) (nI st) tk vl ed cd am hd)) = some ((), hp lp (GM M (nI (exB b n 2 k i)) (nI st) (if wb = true ∨ 4 < exB b n 2 k i - st then 4 else 2) vl' (nI (exB b n 2 k i)) cd am hd)) ∧ (exB b n 2 k i - st ≤ 4 → vl' = nI (dv b st (exB b n 2 k i - st))) := by
  have hn := hB.1
  have h2 := hB.2.2
  have fin : ∀ j vl, st ≤ j → j ≤ n → (if bi wb = 0 then (am_gd (am_ob (hp lp (GM M (nI j) (nI st) tk vl ed cd am hd)) (some 121) 10) (am_gd (am_ob (hp lp (GM M (nI j) (nI st) tk vl ed cd am hd)) (some 121) 10) (if ((am_gi (hp lp (GM M (nI j) (nI st) tk vl ed cd am hd)) (some 121) 10) - (am_gi (hp lp (GM M (nI j) (nI st) tk vl ed cd am hd)) (some 121) 11)) ≤ (4 : Int32) then (fxX10_go_b261 (some 121) (2 : Int32) (some 121) (hp lp (GM M (nI j) (nI st) tk vl ed cd am hd))) else (fxX10_go_b256 (some 121) (some 121) (hp lp (GM M (nI j) (nI st) tk vl ed cd am hd)))))) else (fxX10_go_b256 (some 121) (some 121) (hp lp (GM M (nI j) (nI st) tk vl ed cd am hd)))) = some ((), hp lp (GM M (nI j) (nI st) (if wb = true ∨ 4 < j - st then 4 else 2) vl (nI j) cd am hd)) := by
    intro j vl hj1 hj2
    have c : (nI j - nI st ≤ (4 : Int32)) = (j - st ≤ 4) := by
      rw [pk_sub hj1]; exact propext (nI_leI (b := 4) (by omega) (by decide))
    cases wb
    · by_cases q : j - st ≤ 4
      · have d := c.trans (eq_true q)
        rw [if_neg (show ¬ (false = true ∨ 4 < j - st) from fun x => by rcases x with x | x; cases x; omega)]
        simp only [fxX10_go_b261, fxX10_go_b256, am_gd_t, am_lt_e, am_bd_s, bi_0, bi_bz, bz0, bz1, nz2, nz10, nz100, hp_gi, hp_si, ↓reduceIte, if_true, if_false, Bool.true_eq_false, Bool.false_eq_true, eq_self, reduceCtorEq, zo0, zp0_0, zp0_1, zp0_2, zp0_4, zp0_5, zp0_6, zp0_7, zp0_8, zp0_9, zp0_10, zo1, zp1_0, zp1_5, zp1_6, zp1_9, zo16, zp16_0, zp16_5, zp16_6, zp16_9, zo31, zp31_0, zp31_5, zp31_6, zp31_9, zo46, zp46_0, zp46_1, zp46_2, zo79, zp79_0, zo83, zp83_0, zp83_1, zp83_2, zo87, zp87_0, zp87_1, zo121, zp121_0, zp121_1, zp121_2, zp121_4, zp121_5, zp121_6, zp121_7, zp121_8, zp121_16, zp121_17, zp121_18, zp121_21, zp121_23, zp121_24, zp121_25, zp121_26, zp121_27, zp121_28, zp121_29, zp121_30, zp121_31, zp121_32, zp121_33, zp121_34, zp79_2, zx2, zx13, zx14, zx15, zx17, zx28, zx29, zx30, zx32, zx43, zx44, zx45, zx47, zx78, zx80, zx84, zx85, zx86, zx88, zx89, zx90, zx99, zx120, zx122, zx123, zx124, zx125, zx126, zx127, zx128, zx129, zx130, zx131, zx132, zx133, zx134, zx135, zx136, zx137, zx138, zx139, zx140, zx141, zx142, zx143, zx144, zx145, zg2, zg17, zg32, zgo3, zgo18, zgo33, zl47, zlo, zlp, zlx, zs90, zso, zsp, zsx, zt99, zto, ztp1, ztp2, ztgo, ztso, ztsp, ztsx, zc0, zi0, zc1, zi1, zc2, zi2, zc3, zi3, zc4, zi4, zc5, zi5, gm_10, gm_11, gm_u12, gm_u14, d]
      · have d := c.trans (eq_false q)
        rw [if_pos (show false = true ∨ 4 < j - st from Or.inr (by omega))]
        simp only [fxX10_go_b261, fxX10_go_b256, am_gd_t, am_lt_e, am_bd_s, bi_0, bi_bz, bz0, bz1, nz2, nz10, nz100, hp_gi, hp_si, ↓reduceIte, if_true, if_false, Bool.true_eq_false, Bool.false_eq_true, eq_self, reduceCtorEq, zo0, zp0_0, zp0_1, zp0_2, zp0_4, zp0_5, zp0_6, zp0_7, zp0_8, zp0_9, zp0_10, zo1, zp1_0, zp1_5, zp1_6, zp1_9, zo16, zp16_0, zp16_5, zp16_6, zp16_9, zo31, zp31_0, zp31_5, zp31_6, zp31_9, zo46, zp46_0, zp46_1, zp46_2, zo79, zp79_0, zo83, zp83_0, zp83_1, zp83_2, zo87, zp87_0, zp87_1, zo121, zp121_0, zp121_1, zp121_2, zp121_4, zp121_5, zp121_6, zp121_7, zp121_8, zp121_16, zp121_17, zp121_18, zp121_21, zp121_23, zp121_24, zp121_25, zp121_26, zp121_27, zp121_28, zp121_29, zp121_30, zp121_31, zp121_32, zp121_33, zp121_34, zp79_2, zx2, zx13, zx14, zx15, zx17, zx28, zx29, zx30, zx32, zx43, zx44, zx45, zx47, zx78, zx80, zx84, zx85, zx86, zx88, zx89, zx90, zx99, zx120, zx122, zx123, zx124, zx125, zx126, zx127, zx128, zx129, zx130, zx131, zx132, zx133, zx134, zx135, zx136, zx137, zx138, zx139, zx140, zx141, zx142, zx143, zx144, zx145, zg2, zg17, zg32, zgo3, zgo18, zgo33, zl47, zlo, zlp, zlx, zs90, zso, zsp, zsx, zt99, zto, ztp1, ztp2, ztgo, ztso, ztsp, ztsx, zc0, zi0, zc1, zi1, zc2, zi2, zc3, zi3, zc4, zi4, zc5, zi5, gm_10, gm_11, gm_u12, gm_u14, d]
    · rw [if_pos (show true = true ∨ 4 < j - st from Or.inl rfl)]
      simp only [fxX10_go_b261, fxX10_go_b256, am_gd_t, am_lt_e, am_bd_s, bi_0, bi_bz, bz0, bz1, nz2, nz10, nz100, hp_gi, hp_si, ↓reduceIte, if_true, if_false, Bool.true_eq_false, Bool.false_eq_true, eq_self, reduceCtorEq, zo0, zp0_0, zp0_1, zp0_2, zp0_4, zp0_5, zp0_6, zp0_7, zp0_8, zp0_9, zp0_10, zo1, zp1_0, zp1_5, zp1_6, zp1_9, zo16, zp16_0, zp16_5, zp16_6, zp16_9, zo31, zp31_0, zp31_5, zp31_6, zp31_9, zo46, zp46_0, zp46_1, zp46_2, zo79, zp79_0, zo83, zp83_0, zp83_1, zp83_2, zo87, zp87_0, zp87_1, zo121, zp121_0, zp121_1, zp121_2, zp121_4, zp121_5, zp121_6, zp121_7, zp121_8, zp121_16, zp121_17, zp121_18, zp121_21, zp121_23, zp121_24, zp121_25, zp121_26, zp121_27, zp121_28, zp121_29, zp121_30, zp121_31, zp121_32, zp121_33, zp121_34, zp79_2, zx2, zx13, zx14, zx15, zx17, zx28, zx29, zx30, zx32, zx43, zx44, zx45, zx47, zx78, zx80, zx84, zx85, zx86, zx88, zx89, zx90, zx99, zx120, zx122, zx123, zx124, zx125, zx126, zx127, zx128, zx129, zx130, zx131, zx132, zx133, zx134, zx135, zx136, zx137, zx138, zx139, zx140, zx141, zx142, zx143, zx144, zx145, zg2, zg17, zg32, zgo3, zgo18, zgo33, zl47, zlo, zlp, zlx, zs90, zso, zsp, zsx, zt99, zto, ztp1, ztp2, ztgo, ztso, ztsp, ztsx, zc0, zi0, zc1, zi1, zc2, zi2, zc3, zi3, zc4, zi4, zc5, zi5, gm_10, gm_u12, gm_u14]
  intro k
  induction k with
  | zero =>
    intro i fuel vl h3 h5 h4 hf hv
    obtain ⟨fuel, rfl⟩ : ∃ f, fuel = f + 1 := ⟨fuel - 1, by omega⟩
    obtain rfl : i = n := by omega
    have hs : so b i i ≠ 2 := by rw [so_0.mpr (Nat.le_refl i)]; decide
    have hil := q_isFigure (lp := lp) (nx := nI i) (fr := nI st) (tk := tk) (vl := vl) (ed := ed) (cd := cd) (am := am) (hd := hd) hB (show i ≤ 96 by omega)
    rw [decide_eq_false hs] at hil
    refine ⟨vl, ?_, hv⟩
    have := fin i vl h5 (Nat.le_refl _)
    simp only [fxX10_go_b170, am_gd_t, am_lt_e, am_bd_s, bi_0, bi_bz, bz0, bz1, nz2, nz10, nz100, hp_gi, hp_si, ↓reduceIte, if_true, if_false, Bool.true_eq_false, Bool.false_eq_true, eq_self, reduceCtorEq, zo0, zp0_0, zp0_1, zp0_2, zp0_4, zp0_5, zp0_6, zp0_7, zp0_8, zp0_9, zp0_10, zo1, zp1_0, zp1_5, zp1_6, zp1_9, zo16, zp16_0, zp16_5, zp16_6, zp16_9, zo31, zp31_0, zp31_5, zp31_6, zp31_9, zo46, zp46_0, zp46_1, zp46_2, zo79, zp79_0, zo83, zp83_0, zp83_1, zp83_2, zo87, zp87_0, zp87_1, zo121, zp121_0, zp121_1, zp121_2, zp121_4, zp121_5, zp121_6, zp121_7, zp121_8, zp121_16, zp121_17, zp121_18, zp121_21, zp121_23, zp121_24, zp121_25, zp121_26, zp121_27, zp121_28, zp121_29, zp121_30, zp121_31, zp121_32, zp121_33, zp121_34, zp79_2, zx2, zx13, zx14, zx15, zx17, zx28, zx29, zx30, zx32, zx43, zx44, zx45, zx47, zx78, zx80, zx84, zx85, zx86, zx88, zx89, zx90, zx99, zx120, zx122, zx123, zx124, zx125, zx126, zx127, zx128, zx129, zx130, zx131, zx132, zx133, zx134, zx135, zx136, zx137, zx138, zx139, zx140, zx141, zx142, zx143, zx144, zx145, zg2, zg17, zg32, zgo3, zgo18, zgo33, zl47, zlo, zlp, zlx, zs90, zso, zsp, zsx, zt99, zto, ztp1, ztp2, ztgo, ztso, ztsp, ztsx, zc0, zi0, zc1, zi1, zc2, zi2, zc3, zi3, zc4, zi4, zc5, zi5, gm_10, hil, exB]
    simp only [am_gd_t, am_lt_e, am_bd_s, bi_0, bi_bz, bz0, bz1, nz2, nz10, nz100, hp_gi, hp_si, zo0, zp0_0, zp0_1, zp0_2, zp0_4, zp0_5, zp0_6, zp0_7, zp0_8, zp0_9, zp0_10, zo1, zp1_0, zp1_5, zp1_6, zp1_9, zo16, zp16_0, zp16_5, zp16_6, zp16_9, zo31, zp31_0, zp31_5, zp31_6, zp31_9, zo46, zp46_0, zp46_1, zp46_2, zo79, zp79_0, zo83, zp83_0, zp83_1, zp83_2, zo87, zp87_0, zp87_1, zo121, zp121_0, zp121_1, zp121_2, zp121_4, zp121_5, zp121_6, zp121_7, zp121_8, zp121_16, zp121_17, zp121_18, zp121_21, zp121_23, zp121_24, zp121_25, zp121_26, zp121_27, zp121_28, zp121_29, zp121_30, zp121_31, zp121_32, zp121_33, zp121_34, zp79_2, zx2, zx13, zx14, zx15, zx17, zx28, zx29, zx30, zx32, zx43, zx44, zx45, zx47, zx78, zx80, zx84, zx85, zx86, zx88, zx89, zx90, zx99, zx120, zx122, zx123, zx124, zx125, zx126, zx127, zx128, zx129, zx130, zx131, zx132, zx133, zx134, zx135, zx136, zx137, zx138, zx139, zx140, zx141, zx142, zx143, zx144, zx145, zg2, zg17, zg32, zgo3, zgo18, zgo33, zl47, zlo, zlp, zlx, zs90, zso, zsp, zsx, zt99, zto, ztp1, ztp2, ztgo, ztso, ztsp, ztsx, zc0, zi0, zc1, zi1, zc2, zi2, zc3, zi3, zc4, zi4, zc5, zi5, gm_10] at this
    exact this
  | succ k ih =>
    intro i fuel vl h3 h5 h4 hf hv
    obtain ⟨fuel, rfl⟩ : ∃ f, fuel = f + 1 := ⟨fuel - 1, by omega⟩
    have hil := q_isFigure (lp := lp) (nx := nI i) (fr := nI st) (tk := tk) (vl := vl) (ed := ed) (cd := cd) (am := am) (hd := hd) hB (show i ≤ 96 by omega)
    unfold exB
    by_cases hs : so b n i = 2
    · have hin : i < n := by
        rcases Nat.lt_or_ge i n with q | q
        · exact q
        · rw [so_0.mpr q] at hs; cases hs
      have hdg := so_2 hs
      rw [decide_eq_true hs] at hil
      rw [if_pos ⟨hin, hs⟩]
      have c : ((4 : Int32) ≤ nI i - nI st) = (4 ≤ i - st) := by
        rw [pk_sub h5]; exact propext (nI_leI (a := 4) (by decide) (by omega))
      by_cases q : 4 ≤ i - st
      · obtain ⟨vl', p1, p2⟩ := ih (i + 1) fuel vl (by omega) (by omega) (by omega) (by omega) (fun x => by omega)
        refine ⟨vl', ?_, p2⟩
        have d := c.trans (eq_true q)
        rw [← p1]
        simp only [fxX10_go_b170, fxX10_go_b222, am_gd_t, am_lt_e, am_bd_s, bi_0, bi_bz, bz0, bz1, nz2, nz10, nz100, hp_gi, hp_si, ↓reduceIte, if_true, if_false, Bool.true_eq_false, Bool.false_eq_true, eq_self, reduceCtorEq, zo0, zp0_0, zp0_1, zp0_2, zp0_4, zp0_5, zp0_6, zp0_7, zp0_8, zp0_9, zp0_10, zo1, zp1_0, zp1_5, zp1_6, zp1_9, zo16, zp16_0, zp16_5, zp16_6, zp16_9, zo31, zp31_0, zp31_5, zp31_6, zp31_9, zo46, zp46_0, zp46_1, zp46_2, zo79, zp79_0, zo83, zp83_0, zp83_1, zp83_2, zo87, zp87_0, zp87_1, zo121, zp121_0, zp121_1, zp121_2, zp121_4, zp121_5, zp121_6, zp121_7, zp121_8, zp121_16, zp121_17, zp121_18, zp121_21, zp121_23, zp121_24, zp121_25, zp121_26, zp121_27, zp121_28, zp121_29, zp121_30, zp121_31, zp121_32, zp121_33, zp121_34, zp79_2, zx2, zx13, zx14, zx15, zx17, zx28, zx29, zx30, zx32, zx43, zx44, zx45, zx47, zx78, zx80, zx84, zx85, zx86, zx88, zx89, zx90, zx99, zx120, zx122, zx123, zx124, zx125, zx126, zx127, zx128, zx129, zx130, zx131, zx132, zx133, zx134, zx135, zx136, zx137, zx138, zx139, zx140, zx141, zx142, zx143, zx144, zx145, zg2, zg17, zg32, zgo3, zgo18, zgo33, zl47, zlo, zlp, zlx, zs90, zso, zsp, zsx, zt99, zto, ztp1, ztp2, ztgo, ztso, ztsp, ztsx, zc0, zi0, zc1, zi1, zc2, zi2, zc3, zi3, zc4, zi4, zc5, zi5, gm_10, gm_11, gm_13, gm_u10, gm_u13, hil, d, nI_1]
      · have hvl := hv (by omega)
        subst hvl
        have hdv : (10 : Int32) * nI (dv b st (i - st)) + nI (b i) - 48 = nI (dv b st (i + 1 - st)) := by
          rw [show (10 : Int32) = nI 10 from rfl, show (48 : Int32) = nI 48 from rfl, pk_mul, nI_add, pk_sub (by omega)]
          congr 1
          rw [show i + 1 - st = (i - st) + 1 by omega, show dv b st ((i - st) + 1) = 10 * dv b st (i - st) + (b (st + (i - st)) - 48) from rfl, show st + (i - st) = i by omega]
          omega
        obtain ⟨vl', p1, p2⟩ := ih (i + 1) fuel (nI (dv b st (i + 1 - st))) (by omega) (by omega) (by omega) (by omega) (fun _ => rfl)
        refine ⟨vl', ?_, p2⟩
        have d := c.trans (eq_false q)
        have e1 := (h2 i hin).1
        rw [← p1]
        simp (disch := omega) only [fxX10_go_b170, fxX10_go_b222, am_gd_t, am_lt_e, am_bd_s, bi_0, bi_bz, bz0, bz1, nz2, nz10, nz100, hp_gi, hp_si, ↓reduceIte, if_true, if_false, Bool.true_eq_false, Bool.false_eq_true, eq_self, reduceCtorEq, zo0, zp0_0, zp0_1, zp0_2, zp0_4, zp0_5, zp0_6, zp0_7, zp0_8, zp0_9, zp0_10, zo1, zp1_0, zp1_5, zp1_6, zp1_9, zo16, zp16_0, zp16_5, zp16_6, zp16_9, zo31, zp31_0, zp31_5, zp31_6, zp31_9, zo46, zp46_0, zp46_1, zp46_2, zo79, zp79_0, zo83, zp83_0, zp83_1, zp83_2, zo87, zp87_0, zp87_1, zo121, zp121_0, zp121_1, zp121_2, zp121_4, zp121_5, zp121_6, zp121_7, zp121_8, zp121_16, zp121_17, zp121_18, zp121_21, zp121_23, zp121_24, zp121_25, zp121_26, zp121_27, zp121_28, zp121_29, zp121_30, zp121_31, zp121_32, zp121_33, zp121_34, zp79_2, zx2, zx13, zx14, zx15, zx17, zx28, zx29, zx30, zx32, zx43, zx44, zx45, zx47, zx78, zx80, zx84, zx85, zx86, zx88, zx89, zx90, zx99, zx120, zx122, zx123, zx124, zx125, zx126, zx127, zx128, zx129, zx130, zx131, zx132, zx133, zx134, zx135, zx136, zx137, zx138, zx139, zx140, zx141, zx142, zx143, zx144, zx145, zg2, zg17, zg32, zgo3, zgo18, zgo33, zl47, zlo, zlp, zlx, zs90, zso, zsp, zsx, zt99, zto, ztp1, ztp2, ztgo, ztso, ztsp, ztsx, zc0, zi0, zc1, zi1, zc2, zi2, zc3, zi3, zc4, zi4, zc5, zi5, zin, zcl, nI_1, Bool.and_self, Bool.true_and, Bool.and_true, gm_10, gm_11, gm_13, gm_129, gm_u10, gm_u13, hil, d, e1, hdv]
    · rw [decide_eq_false hs] at hil
      rw [if_neg (fun q => hs q.2)]
      refine ⟨vl, ?_, hv⟩
      have := fin i vl h5 h4
      simp only [fxX10_go_b170, am_gd_t, am_lt_e, am_bd_s, bi_0, bi_bz, bz0, bz1, nz2, nz10, nz100, hp_gi, hp_si, ↓reduceIte, if_true, if_false, Bool.true_eq_false, Bool.false_eq_true, eq_self, reduceCtorEq, zo0, zp0_0, zp0_1, zp0_2, zp0_4, zp0_5, zp0_6, zp0_7, zp0_8, zp0_9, zp0_10, zo1, zp1_0, zp1_5, zp1_6, zp1_9, zo16, zp16_0, zp16_5, zp16_6, zp16_9, zo31, zp31_0, zp31_5, zp31_6, zp31_9, zo46, zp46_0, zp46_1, zp46_2, zo79, zp79_0, zo83, zp83_0, zp83_1, zp83_2, zo87, zp87_0, zp87_1, zo121, zp121_0, zp121_1, zp121_2, zp121_4, zp121_5, zp121_6, zp121_7, zp121_8, zp121_16, zp121_17, zp121_18, zp121_21, zp121_23, zp121_24, zp121_25, zp121_26, zp121_27, zp121_28, zp121_29, zp121_30, zp121_31, zp121_32, zp121_33, zp121_34, zp79_2, zx2, zx13, zx14, zx15, zx17, zx28, zx29, zx30, zx32, zx43, zx44, zx45, zx47, zx78, zx80, zx84, zx85, zx86, zx88, zx89, zx90, zx99, zx120, zx122, zx123, zx124, zx125, zx126, zx127, zx128, zx129, zx130, zx131, zx132, zx133, zx134, zx135, zx136, zx137, zx138, zx139, zx140, zx141, zx142, zx143, zx144, zx145, zg2, zg17, zg32, zgo3, zgo18, zgo33, zl47, zlo, zlp, zlx, zs90, zso, zsp, zsx, zt99, zto, ztp1, ztp2, ztgo, ztso, ztsp, ztsx, zc0, zi0, zc1, zi1, zc2, zi2, zc3, zi3, zc4, zi4, zc5, zi5, gm_10, hil]
      simp only [am_gd_t, am_lt_e, am_bd_s, bi_0, bi_bz, bz0, bz1, nz2, nz10, nz100, hp_gi, hp_si, zo0, zp0_0, zp0_1, zp0_2, zp0_4, zp0_5, zp0_6, zp0_7, zp0_8, zp0_9, zp0_10, zo1, zp1_0, zp1_5, zp1_6, zp1_9, zo16, zp16_0, zp16_5, zp16_6, zp16_9, zo31, zp31_0, zp31_5, zp31_6, zp31_9, zo46, zp46_0, zp46_1, zp46_2, zo79, zp79_0, zo83, zp83_0, zp83_1, zp83_2, zo87, zp87_0, zp87_1, zo121, zp121_0, zp121_1, zp121_2, zp121_4, zp121_5, zp121_6, zp121_7, zp121_8, zp121_16, zp121_17, zp121_18, zp121_21, zp121_23, zp121_24, zp121_25, zp121_26, zp121_27, zp121_28, zp121_29, zp121_30, zp121_31, zp121_32, zp121_33, zp121_34, zp79_2, zx2, zx13, zx14, zx15, zx17, zx28, zx29, zx30, zx32, zx43, zx44, zx45, zx47, zx78, zx80, zx84, zx85, zx86, zx88, zx89, zx90, zx99, zx120, zx122, zx123, zx124, zx125, zx126, zx127, zx128, zx129, zx130, zx131, zx132, zx133, zx134, zx135, zx136, zx137, zx138, zx139, zx140, zx141, zx142, zx143, zx144, zx145, zg2, zg17, zg32, zgo3, zgo18, zgo33, zl47, zlo, zlp, zlx, zs90, zso, zsp, zsx, zt99, zto, ztp1, ztp2, ztgo, ztso, ztsp, ztsx, zc0, zi0, zc1, zi1, zc2, zi2, zc3, zi3, zc4, zi4, zc5, zi5, gm_10] at this
      exact this
/-- the next word or sign, on the reference's side -/
theorem q_go {lp n s0 a0 e : Nat} {b : Nat → Nat} {M : Mem} {fr tk vl ed cd am hd : Int32} (hB : TpR M b n) (he : e ≤ n) (hE : (nI (stT b n e) = ed) ↔ ((s0 = 1 ∨ s0 = 2) ∧ stT b n e = e)) : ∃ vl' ed', fxX10_go (some 121) (hp lp (GM M (nI e) fr tk vl ed cd am hd)) = some ((), hp lp (GM M (nI (nx b n (s0, a0, e)).2.2) (nI (nx b n (s0, a0, e)).2.1) (nI (nx b n (s0, a0, e)).1) vl' ed' cd am hd)) ∧ ((nx b n (s0, a0, e)).1 = 1 ∨ (nx b n (s0, a0, e)).1 = 3 → vl' = nI (b (nx b n (s0, a0, e)).2.1)) ∧ ((nx b n (s0, a0, e)).1 = 2 → vl' = nI (dv b (nx b n (s0, a0, e)).2.1 ((nx b n (s0, a0, e)).2.2 - (nx b n (s0, a0, e)).2.1))) ∧ ((nx b n (s0, a0, e)).1 = 1 ∨ (nx b n (s0, a0, e)).1 = 2 → ed' = nI (nx b n (s0, a0, e)).2.2) ∧ ((nx b n (s0, a0, e)).1 = 3 → ed' = ed) := by
  have hn := hB.1
  have h1 := hB.2.1
  have hst : stT b n e ≤ n := st_le he
  rw [nx_st, nx_en]
  dsimp only
  -- whether it stands right behind a word
  obtain ⟨wb, hwb⟩ : ∃ wb : Bool, wb = true ↔ (nI (stT b n e) = ed) := by
    by_cases q : nI (stT b n e) = ed
    · exact ⟨true, by simp [q]⟩
    · exact ⟨false, by simp [q]⟩
  have head : fxX10_go (some 121) (hp lp (GM M (nI e) fr tk vl ed cd am hd)) = fxX10_go_b62 (some 121) (bi wb) (hp lp (GM M (nI (stT b n e)) (nI (stT b n e)) tk vl ed cd am hd)) := by
    have hsk := go_sk (lp := lp) (fr := fr) (tk := tk) (vl := vl) (ed := ed) (cd := cd) (am := am) (hd := hd) hB (n - e) e am_F (by omega) he (by unfold am_F; omega)
    show fxX10_go_b0 am_F (some 121) _ = _
    rw [hsk]
    show fxX10_go_b38 (some 121) (hp lp (GM M (nI (stT b n e)) fr tk vl ed cd am hd)) = _
    by_cases q : nI (stT b n e) = ed
    · rw [hwb.mpr q]
      have d := eq_true q
      simp only [fxX10_go_b38, am_gd_t, am_lt_e, am_bd_s, bi_0, bi_bz, bz0, bz1, nz2, nz10, nz100, hp_gi, hp_si, ↓reduceIte, if_true, if_false, Bool.true_eq_false, Bool.false_eq_true, eq_self, reduceCtorEq, zo0, zp0_0, zp0_1, zp0_2, zp0_4, zp0_5, zp0_6, zp0_7, zp0_8, zp0_9, zp0_10, zo1, zp1_0, zp1_5, zp1_6, zp1_9, zo16, zp16_0, zp16_5, zp16_6, zp16_9, zo31, zp31_0, zp31_5, zp31_6, zp31_9, zo46, zp46_0, zp46_1, zp46_2, zo79, zp79_0, zo83, zp83_0, zp83_1, zp83_2, zo87, zp87_0, zp87_1, zo121, zp121_0, zp121_1, zp121_2, zp121_4, zp121_5, zp121_6, zp121_7, zp121_8, zp121_16, zp121_17, zp121_18, zp121_21, zp121_23, zp121_24, zp121_25, zp121_26, zp121_27, zp121_28, zp121_29, zp121_30, zp121_31, zp121_32, zp121_33, zp121_34, zp79_2, zx2, zx13, zx14, zx15, zx17, zx28, zx29, zx30, zx32, zx43, zx44, zx45, zx47, zx78, zx80, zx84, zx85, zx86, zx88, zx89, zx90, zx99, zx120, zx122, zx123, zx124, zx125, zx126, zx127, zx128, zx129, zx130, zx131, zx132, zx133, zx134, zx135, zx136, zx137, zx138, zx139, zx140, zx141, zx142, zx143, zx144, zx145, zg2, zg17, zg32, zgo3, zgo18, zgo33, zl47, zlo, zlp, zlx, zs90, zso, zsp, zsx, zt99, zto, ztp1, ztp2, ztgo, ztso, ztsp, ztsx, zc0, zi0, zc1, zi1, zc2, zi2, zc3, zi3, zc4, zi4, zc5, zi5, gm_10, gm_11, gm_14, gm_u11, d]
      rfl
    · have : wb = false := by
        cases hh : wb with
        | false => rfl
        | true => exact absurd (hwb.mp hh) q
      rw [this]
      have d := eq_false q
      simp only [fxX10_go_b38, am_gd_t, am_lt_e, am_bd_s, bi_0, bi_bz, bz0, bz1, nz2, nz10, nz100, hp_gi, hp_si, ↓reduceIte, if_true, if_false, Bool.true_eq_false, Bool.false_eq_true, eq_self, reduceCtorEq, zo0, zp0_0, zp0_1, zp0_2, zp0_4, zp0_5, zp0_6, zp0_7, zp0_8, zp0_9, zp0_10, zo1, zp1_0, zp1_5, zp1_6, zp1_9, zo16, zp16_0, zp16_5, zp16_6, zp16_9, zo31, zp31_0, zp31_5, zp31_6, zp31_9, zo46, zp46_0, zp46_1, zp46_2, zo79, zp79_0, zo83, zp83_0, zp83_1, zp83_2, zo87, zp87_0, zp87_1, zo121, zp121_0, zp121_1, zp121_2, zp121_4, zp121_5, zp121_6, zp121_7, zp121_8, zp121_16, zp121_17, zp121_18, zp121_21, zp121_23, zp121_24, zp121_25, zp121_26, zp121_27, zp121_28, zp121_29, zp121_30, zp121_31, zp121_32, zp121_33, zp121_34, zp79_2, zx2, zx13, zx14, zx15, zx17, zx28, zx29, zx30, zx32, zx43, zx44, zx45, zx47, zx78, zx80, zx84, zx85, zx86, zx88, zx89, zx90, zx99, zx120, zx122, zx123, zx124, zx125, zx126, zx127, zx128, zx129, zx130, zx131, zx132, zx133, zx134, zx135, zx136, zx137, zx138, zx139, zx140, zx141, zx142, zx143, zx144, zx145, zg2, zg17, zg32, zgo3, zgo18, zgo33, zl47, zlo, zlp, zlx, zs90, zso, zsp, zsx, zt99, zto, ztp1, ztp2, ztgo, ztso, ztsp, ztsx, zc0, zi0, zc1, zi1, zc2, zi2, zc3, zi3, zc4, zi4, zc5, zi5, gm_10, gm_11, gm_14, gm_u11, d]
      rfl
  rw [head]
  have hbd : bdT b n s0 e ↔ ((wb = true ∧ (so b n (stT b n e) = 1 ∨ so b n (stT b n e) = 2)) ∨ (so b n (stT b n e) = 2 ∧ 4 < enT b n (stT b n e) - stT b n e)) := by
    unfold bdT
    rw [hwb, hE]
    constructor
    · rintro (⟨x1, x2, x3⟩ | x)
      · exact Or.inl ⟨⟨x1, x2⟩, x3⟩
      · exact Or.inr x
    · rintro (⟨⟨x1, x2⟩, x3⟩ | x)
      · exact Or.inl ⟨x1, x2, x3⟩
      · exact Or.inr x
  have hil := q_isLetter (lp := lp) (nx := nI (stT b n e)) (fr := nI (stT b n e)) (tk := tk) (vl := vl) (ed := ed) (cd := cd) (am := am) (hd := hd) hB (show stT b n e ≤ 96 by omega)
  have hif := q_isFigure (lp := lp) (nx := nI (stT b n e)) (fr := nI (stT b n e)) (tk := tk) (vl := vl) (ed := ed) (cd := cd) (am := am) (hd := hd) hB (show stT b n e ≤ 96 by omega)
  have hsl := so_le b n (stT b n e)
  rcases (show so b n (stT b n e) = 0 ∨ so b n (stT b n e) = 1 ∨ so b n (stT b n e) = 2 ∨ so b n (stT b n e) = 3 by omega) with h | h | h | h
  · have hnb : ¬ bdT b n s0 e := by rw [hbd]; omega
    have e1 : (nx b n (s0, a0, e)).1 = 0 := by rw [nx_s (T := (s0, a0, e)) hnb]; exact h
    have hstn : stT b n e = n := by have := so_0.mp h; omega
    have hen : enT b n (stT b n e) = stT b n e := by
      unfold enT
      rw [if_neg (by omega), hstn, Nat.sub_self]
      rfl
    rw [e1, hen]
    refine ⟨vl, ed, ?_, fun x => by omega, fun x => by omega, fun x => by omega, fun x => by omega⟩
    have c : (nI (stT b n e) = nI n) = True := by rw [hstn]; exact eq_true rfl
    simp only [fxX10_go_b62, am_gd_t, am_lt_e, am_bd_s, bi_0, bi_bz, bz0, bz1, nz2, nz10, nz100, hp_gi, hp_si, ↓reduceIte, if_true, if_false, Bool.true_eq_false, Bool.false_eq_true, eq_self, reduceCtorEq, zo0, zp0_0, zp0_1, zp0_2, zp0_4, zp0_5, zp0_6, zp0_7, zp0_8, zp0_9, zp0_10, zo1, zp1_0, zp1_5, zp1_6, zp1_9, zo16, zp16_0, zp16_5, zp16_6, zp16_9, zo31, zp31_0, zp31_5, zp31_6, zp31_9, zo46, zp46_0, zp46_1, zp46_2, zo79, zp79_0, zo83, zp83_0, zp83_1, zp83_2, zo87, zp87_0, zp87_1, zo121, zp121_0, zp121_1, zp121_2, zp121_4, zp121_5, zp121_6, zp121_7, zp121_8, zp121_16, zp121_17, zp121_18, zp121_21, zp121_23, zp121_24, zp121_25, zp121_26, zp121_27, zp121_28, zp121_29, zp121_30, zp121_31, zp121_32, zp121_33, zp121_34, zp79_2, zx2, zx13, zx14, zx15, zx17, zx28, zx29, zx30, zx32, zx43, zx44, zx45, zx47, zx78, zx80, zx84, zx85, zx86, zx88, zx89, zx90, zx99, zx120, zx122, zx123, zx124, zx125, zx126, zx127, zx128, zx129, zx130, zx131, zx132, zx133, zx134, zx135, zx136, zx137, zx138, zx139, zx140, zx141, zx142, zx143, zx144, zx145, zg2, zg17, zg32, zgo3, zgo18, zgo33, zl47, zlo, zlp, zlx, zs90, zso, zsp, zsx, zt99, zto, ztp1, ztp2, ztgo, ztso, ztsp, ztsx, zc0, zi0, zc1, zi1, zc2, zi2, zc3, zi3, zc4, zi4, zc5, zi5, gm_9, gm_11, gm_u12, h1, c]
    rfl
  · have hlt : stT b n e < n := by
      rcases Nat.lt_or_ge (stT b n e) n with q | q
      · exact q
      · rw [so_0.mpr q] at h; cases h
    have hne : (nI (stT b n e) = nI n) = False := zne (by omega) (by omega) (by omega)
    have hen : enT b n (stT b n e) = exB b n 1 (n - stT b n e) (stT b n e) := by unfold enT; rw [if_neg (by omega), h]
    have hl := go_lt (lp := lp) (wb := wb) (tk := tk) (vl := vl) (ed := ed) (cd := cd) (am := am) (hd := hd) hB hlt (n - stT b n e) (stT b n e) am_F (by omega) hst (by unfold am_F; omega)
    rw [← hen] at hl
    rw [decide_eq_true h] at hil
    have e1 : (nx b n (s0, a0, e)).1 = (if wb = true then 4 else 1) := by
      cases hw : wb with
      | true => rw [if_pos rfl]; exact nx_b (T := (s0, a0, e)) (hbd.mpr (Or.inl ⟨hw, Or.inl h⟩))
      | false => rw [if_neg (by decide), nx_s (T := (s0, a0, e)) (by rw [hbd, hw, h]; rintro (x | x); exact absurd x.1 (by decide); exact absurd x.1 (by decide))]; exact h
    refine ⟨nI (b (stT b n e)), nI (enT b n (stT b n e)), ?_, fun _ => rfl, fun x => ?_, fun _ => rfl, fun x => ?_⟩
    · have e2 : nI (nx b n (s0, a0, e)).1 = (if wb = true then (4 : Int32) else 1) := by rw [e1]; cases wb <;> rfl
      rw [e2, ← hl]
      simp only [fxX10_go_b62, am_gd_t, am_lt_e, am_bd_s, bi_0, bi_bz, bz0, bz1, nz2, nz10, nz100, hp_gi, hp_si, ↓reduceIte, if_true, if_false, Bool.true_eq_false, Bool.false_eq_true, eq_self, reduceCtorEq, zo0, zp0_0, zp0_1, zp0_2, zp0_4, zp0_5, zp0_6, zp0_7, zp0_8, zp0_9, zp0_10, zo1, zp1_0, zp1_5, zp1_6, zp1_9, zo16, zp16_0, zp16_5, zp16_6, zp16_9, zo31, zp31_0, zp31_5, zp31_6, zp31_9, zo46, zp46_0, zp46_1, zp46_2, zo79, zp79_0, zo83, zp83_0, zp83_1, zp83_2, zo87, zp87_0, zp87_1, zo121, zp121_0, zp121_1, zp121_2, zp121_4, zp121_5, zp121_6, zp121_7, zp121_8, zp121_16, zp121_17, zp121_18, zp121_21, zp121_23, zp121_24, zp121_25, zp121_26, zp121_27, zp121_28, zp121_29, zp121_30, zp121_31, zp121_32, zp121_33, zp121_34, zp79_2, zx2, zx13, zx14, zx15, zx17, zx28, zx29, zx30, zx32, zx43, zx44, zx45, zx47, zx78, zx80, zx84, zx85, zx86, zx88, zx89, zx90, zx99, zx120, zx122, zx123, zx124, zx125, zx126, zx127, zx128, zx129, zx130, zx131, zx132, zx133, zx134, zx135, zx136, zx137, zx138, zx139, zx140, zx141, zx142, zx143, zx144, zx145, zg2, zg17, zg32, zgo3, zgo18, zgo33, zl47, zlo, zlp, zlx, zs90, zso, zsp, zsx, zt99, zto, ztp1, ztp2, ztgo, ztso, ztsp, ztsx, zc0, zi0, zc1, zi1, zc2, zi2, zc3, zi3, zc4, zi4, zc5, zi5, gm_9, gm_11, h1, hne, hil]
    · rw [e1] at x; split at x <;> omega
    · rw [e1] at x; split at x <;> omega
  · have hlt : stT b n e < n := by
      rcases Nat.lt_or_ge (stT b n e) n with q | q
      · exact q
      · rw [so_0.mpr q] at h; cases h
    have hne : (nI (stT b n e) = nI n) = False := zne (by omega) (by omega) (by omega)
    have hen : enT b n (stT b n e) = exB b n 2 (n - stT b n e) (stT b n e) := by unfold enT; rw [if_neg (by omega), h]
    obtain ⟨vl', hl, hv'⟩ := go_dg (lp := lp) (wb := wb) (tk := tk) (ed := ed) (cd := cd) (am := am) (hd := hd) hB hlt (n - stT b n e) (stT b n e) am_F 0 (by omega) (Nat.le_refl _) hst (by unfold am_F; omega) (fun _ => by rw [Nat.sub_self]; rfl)
    rw [← hen] at hl hv'
    rw [decide_eq_false (by omega)] at hil
    rw [decide_eq_true h] at hif
    have e1 : (nx b n (s0, a0, e)).1 = (if wb = true ∨ 4 < enT b n (stT b n e) - stT b n e then 4 else 2) := by
      by_cases hc : wb = true ∨ 4 < enT b n (stT b n e) - stT b n e
      · rw [if_pos hc]
        exact nx_b (T := (s0, a0, e)) (hbd.mpr (by rcases hc with x | x; exact Or.inl ⟨x, Or.inr h⟩; exact Or.inr ⟨h, x⟩))
      · rw [if_neg hc, nx_s (T := (s0, a0, e)) (by rw [hbd]; rintro (x | x); exact hc (Or.inl x.1); exact hc (Or.inr x.2))]
        exact h
    refine ⟨vl', nI (enT b n (stT b n e)), ?_, fun x => ?_, fun x => ?_, fun _ => rfl, fun x => ?_⟩
    · have e2 : nI (nx b n (s0, a0, e)).1 = (if wb = true ∨ 4 < enT b n (stT b n e) - stT b n e then (4 : Int32) else 2) := by rw [e1]; split <;> rfl
      rw [e2, ← hl]
      simp only [fxX10_go_b62, am_gd_t, am_lt_e, am_bd_s, bi_0, bi_bz, bz0, bz1, nz2, nz10, nz100, hp_gi, hp_si, ↓reduceIte, if_true, if_false, Bool.true_eq_false, Bool.false_eq_true, eq_self, reduceCtorEq, zo0, zp0_0, zp0_1, zp0_2, zp0_4, zp0_5, zp0_6, zp0_7, zp0_8, zp0_9, zp0_10, zo1, zp1_0, zp1_5, zp1_6, zp1_9, zo16, zp16_0, zp16_5, zp16_6, zp16_9, zo31, zp31_0, zp31_5, zp31_6, zp31_9, zo46, zp46_0, zp46_1, zp46_2, zo79, zp79_0, zo83, zp83_0, zp83_1, zp83_2, zo87, zp87_0, zp87_1, zo121, zp121_0, zp121_1, zp121_2, zp121_4, zp121_5, zp121_6, zp121_7, zp121_8, zp121_16, zp121_17, zp121_18, zp121_21, zp121_23, zp121_24, zp121_25, zp121_26, zp121_27, zp121_28, zp121_29, zp121_30, zp121_31, zp121_32, zp121_33, zp121_34, zp79_2, zx2, zx13, zx14, zx15, zx17, zx28, zx29, zx30, zx32, zx43, zx44, zx45, zx47, zx78, zx80, zx84, zx85, zx86, zx88, zx89, zx90, zx99, zx120, zx122, zx123, zx124, zx125, zx126, zx127, zx128, zx129, zx130, zx131, zx132, zx133, zx134, zx135, zx136, zx137, zx138, zx139, zx140, zx141, zx142, zx143, zx144, zx145, zg2, zg17, zg32, zgo3, zgo18, zgo33, zl47, zlo, zlp, zlx, zs90, zso, zsp, zsx, zt99, zto, ztp1, ztp2, ztgo, ztso, ztsp, ztsx, zc0, zi0, zc1, zi1, zc2, zi2, zc3, zi3, zc4, zi4, zc5, zi5, gm_9, gm_11, gm_u13, h1, hne, hil, hif, show ((1 : Int32) = 0) = False from by decide]
    · rw [e1] at x; split at x <;> omega
    · refine hv' ?_
      rw [e1] at x
      split at x
      · omega
      · next hc => exact Nat.not_lt.mp (fun y => hc (Or.inr y))
    · rw [e1] at x; split at x <;> omega
  · have hlt : stT b n e < n := by
      rcases Nat.lt_or_ge (stT b n e) n with q | q
      · exact q
      · rw [so_0.mpr q] at h; cases h
    have hne : (nI (stT b n e) = nI n) = False := zne (by omega) (by omega) (by omega)
    have hen : enT b n (stT b n e) = stT b n e + 1 := by unfold enT; rw [if_pos h]
    have hnb : ¬ bdT b n s0 e := by rw [hbd]; omega
    have e1 : (nx b n (s0, a0, e)).1 = 3 := by rw [nx_s (T := (s0, a0, e)) hnb]; exact h
    rw [decide_eq_false (by omega)] at hil hif
    rw [e1, hen]
    refine ⟨nI (b (stT b n e)), ed, ?_, fun _ => rfl, fun x => by omega, fun x => by omega, fun _ => rfl⟩
    have e2 := (hB.2.2 _ hlt).1
    simp (disch := omega) only [fxX10_go_b62, am_gd_t, am_lt_e, am_bd_s, bi_0, bi_bz, bz0, bz1, nz2, nz10, nz100, hp_gi, hp_si, ↓reduceIte, if_true, if_false, Bool.true_eq_false, Bool.false_eq_true, eq_self, reduceCtorEq, zo0, zp0_0, zp0_1, zp0_2, zp0_4, zp0_5, zp0_6, zp0_7, zp0_8, zp0_9, zp0_10, zo1, zp1_0, zp1_5, zp1_6, zp1_9, zo16, zp16_0, zp16_5, zp16_6, zp16_9, zo31, zp31_0, zp31_5, zp31_6, zp31_9, zo46, zp46_0, zp46_1, zp46_2, zo79, zp79_0, zo83, zp83_0, zp83_1, zp83_2, zo87, zp87_0, zp87_1, zo121, zp121_0, zp121_1, zp121_2, zp121_4, zp121_5, zp121_6, zp121_7, zp121_8, zp121_16, zp121_17, zp121_18, zp121_21, zp121_23, zp121_24, zp121_25, zp121_26, zp121_27, zp121_28, zp121_29, zp121_30, zp121_31, zp121_32, zp121_33, zp121_34, zp79_2, zx2, zx13, zx14, zx15, zx17, zx28, zx29, zx30, zx32, zx43, zx44, zx45, zx47, zx78, zx80, zx84, zx85, zx86, zx88, zx89, zx90, zx99, zx120, zx122, zx123, zx124, zx125, zx126, zx127, zx128, zx129, zx130, zx131, zx132, zx133, zx134, zx135, zx136, zx137, zx138, zx139, zx140, zx141, zx142, zx143, zx144, zx145, zg2, zg17, zg32, zgo3, zgo18, zgo33, zl47, zlo, zlp, zlx, zs90, zso, zsp, zsx, zt99, zto, ztp1, ztp2, ztgo, ztso, ztsp, ztsx, zc0, zi0, zc1, zi1, zc2, zi2, zc3, zi3, zc4, zi4, zc5, zi5, zin, zcl, nI_1, Bool.and_self, Bool.true_and, Bool.and_true, gm_9, gm_10, gm_11, gm_129, gm_u10, gm_u12, gm_u13, h1, hne, hil, hif, e2]
    rfl
