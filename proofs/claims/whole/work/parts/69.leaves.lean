/-! ===== leaves ===== -/
theorem iwn {i n : Nat} (hn : n ≤ 1000000) (hi : i < 1000000) : iw (nI i) 0 (nI n - 1) = decide (i < n) := by
  by_cases h : i < n
  · rw [iw_nI' hn h, decide_eq_true h]
  · rw [decide_eq_false h]
    cases q : iw (nI i) 0 (nI n - 1) with
    | false => rfl
    | true =>
      obtain ⟨j, h1, h2⟩ := iw_nI hn q
      have := (nI_eq (by omega) (by omega)).mp h2
      omega
theorem nNO {i : Nat} (hi : i < 1000000) : (nI i = -1000000005) = False := eq_false (fun q => by
  have := nI_pos' (n := i) (by omega)
  rw [q] at this
  revert this; decide)
/-- partners by the sheet -/
def arB (V : Nat → Nat → Int32) (c : Nat → Int32) (sz a b : Nat) : Bool := !decide (V a b = -1) && ((decide (a < sz) && decide (c a = nI b)) && (decide (b < sz) && decide (c b = nI a)))
def St (V : Nat → Nat → Int32) (c : Nat → Int32) (sz n : Nat) (t : Int32) (i : Nat) : Prop := (t = -1 ∧ ∀ k, k < n → k ≠ i → arB V c sz i k = false) ∨ (∃ j, j < n ∧ j ≠ i ∧ t = nI j ∧ arB V c sz i j = true)
theorem q_toldMate {lp s n sz i : Nat} {M : Mem} {V : Nat → Nat → Int32} {c : Nat → Int32} (hs : s < 4) (hn : n ≤ 10) (hi : i < n) (hsz : sz ≤ 24) (e1 : M (91 + 2 * s) 1 = nI sz) (hc : ∀ k, k < 24 → M (92 + 2 * s) k = c k) (e3 : M 83 3 = nI n) (hV : ∀ a b, a < n → b < n → a ≠ b → M 84 (10 * a + b) = V a b) : ∃ t, fxX7_toldMate (some 83) (nI i) (some (91 + 2 * s)) (hp lp M) = some (t, hp lp M) ∧ St V c sz n t i := by
  have ho := zso (lp := lp) (M := M) hs
  have hhn := fun x => q_hasNumber (lp := lp) (M := M) ho (zsp hs) (fun i => zsx hs) hsz e1 x
  have hhi : fxX5_hasNumber (some (91 + 2 * s)) (nI i) (hp lp M) = some (bi (decide (i < sz) && !decide (c i = -1000000005)), hp lp M) := by
    rw [hhn, iwn (by omega) (by omega), zcl (by omega), hc i (by omega)]
  by_cases h1 : i < sz ∧ ¬ c i = -1000000005
  · have hb1 : (decide (i < sz) && !decide (c i = -1000000005)) = true := by rw [decide_eq_true h1.1, decide_eq_false h1.2]; rfl
    rw [hb1] at hhi
    have ei : M (92 + 2 * s) i = c i := hc i (by omega)
    cases hx : iw (c i) 0 (nI n - 1) with
    | false =>
      refine ⟨-1, ?_, Or.inl ⟨rfl, fun k hk hki => ?_⟩⟩
      · simp (disch := omega) only [fxX7_toldMate, am_gd_t, am_lt_e, am_bd_s, bi_0, bi_bz, bz0, bz1, nz2, nz10, nz100, hp_gi, hp_si, ↓reduceIte, if_true, if_false, Bool.true_eq_false, Bool.false_eq_true, eq_self, reduceCtorEq, zo0, zp0_0, zp0_1, zp0_2, zp0_4, zp0_5, zp0_6, zp0_7, zp0_8, zp0_9, zp0_10, zo1, zp1_0, zp1_5, zp1_6, zp1_9, zo16, zp16_0, zp16_5, zp16_6, zp16_9, zo31, zp31_0, zp31_5, zp31_6, zp31_9, zo46, zp46_0, zp46_1, zp46_2, zo79, zp79_0, zo83, zp83_0, zp83_1, zp83_2, zo87, zp87_0, zp87_1, zo121, zp121_0, zp121_1, zp121_2, zp121_4, zp121_5, zp121_6, zp121_7, zp121_8, zp121_16, zp121_17, zp121_18, zp121_21, zp121_23, zp121_24, zp121_25, zp121_26, zp121_27, zp121_28, zp121_29, zp121_30, zp121_31, zp121_32, zp121_33, zp121_34, zp79_2, zx2, zx13, zx14, zx15, zx17, zx28, zx29, zx30, zx32, zx43, zx44, zx45, zx47, zx78, zx80, zx84, zx85, zx86, zx88, zx89, zx90, zx99, zx120, zx122, zx123, zx124, zx125, zx126, zx127, zx128, zx129, zx130, zx131, zx132, zx133, zx134, zx135, zx136, zx137, zx138, zx139, zx140, zx141, zx142, zx143, zx144, zx145, zg2, zg17, zg32, zgo3, zgo18, zgo33, zl47, zlo, zlp, zlx, zs90, zso, zsp, zsx, zt99, zto, ztp1, ztp2, ztgo, ztso, ztsp, ztsx, zc0, zi0, zc1, zi1, zc2, zi2, zc3, zi3, zc4, zi4, zc5, zi5, zin, zcl, nI_1, Bool.and_self, Bool.true_and, Bool.and_true, hhi, ei, e3, q_within, hx]
      · unfold arB
        have : decide (c i = nI k) = false := decide_eq_false (fun q => by rw [q, iw_nI' (by omega) hk] at hx; cases hx)
        rw [this]; simp
    | true =>
      obtain ⟨j, hj, ej⟩ := iw_nI (by omega) hx
      rw [ej] at ei hx
      by_cases hji : j = i
      · subst hji
        refine ⟨-1, ?_, Or.inl ⟨rfl, fun k hk hki => ?_⟩⟩
        · simp (disch := omega) only [fxX7_toldMate, am_gd_t, am_lt_e, am_bd_s, bi_0, bi_bz, bz0, bz1, nz2, nz10, nz100, hp_gi, hp_si, ↓reduceIte, if_true, if_false, Bool.true_eq_false, Bool.false_eq_true, eq_self, reduceCtorEq, zo0, zp0_0, zp0_1, zp0_2, zp0_4, zp0_5, zp0_6, zp0_7, zp0_8, zp0_9, zp0_10, zo1, zp1_0, zp1_5, zp1_6, zp1_9, zo16, zp16_0, zp16_5, zp16_6, zp16_9, zo31, zp31_0, zp31_5, zp31_6, zp31_9, zo46, zp46_0, zp46_1, zp46_2, zo79, zp79_0, zo83, zp83_0, zp83_1, zp83_2, zo87, zp87_0, zp87_1, zo121, zp121_0, zp121_1, zp121_2, zp121_4, zp121_5, zp121_6, zp121_7, zp121_8, zp121_16, zp121_17, zp121_18, zp121_21, zp121_23, zp121_24, zp121_25, zp121_26, zp121_27, zp121_28, zp121_29, zp121_30, zp121_31, zp121_32, zp121_33, zp121_34, zp79_2, zx2, zx13, zx14, zx15, zx17, zx28, zx29, zx30, zx32, zx43, zx44, zx45, zx47, zx78, zx80, zx84, zx85, zx86, zx88, zx89, zx90, zx99, zx120, zx122, zx123, zx124, zx125, zx126, zx127, zx128, zx129, zx130, zx131, zx132, zx133, zx134, zx135, zx136, zx137, zx138, zx139, zx140, zx141, zx142, zx143, zx144, zx145, zg2, zg17, zg32, zgo3, zgo18, zgo33, zl47, zlo, zlp, zlx, zs90, zso, zsp, zsx, zt99, zto, ztp1, ztp2, ztgo, ztso, ztsp, ztsx, zc0, zi0, zc1, zi1, zc2, zi2, zc3, zi3, zc4, zi4, zc5, zi5, zin, zcl, nI_1, Bool.and_self, Bool.true_and, Bool.and_true, hhi, ei, e3, q_within, hx]
        · unfold arB
          have : decide (c j = nI k) = false := decide_eq_false (fun q => by rw [ej] at q; exact hki ((nI_eq (by omega) (by omega)).mp q).symm)
          rw [this]; simp
      · have hne : (nI j = nI i) = False := zne hji (by omega) (by omega)
        have only : ∀ k, k < n → k ≠ j → arB V c sz i k = false := fun k hk hkj => by
          unfold arB
          have : decide (c i = nI k) = false := decide_eq_false (fun q => by rw [ej] at q; exact hkj ((nI_eq (by omega) (by omega)).mp q).symm)
          rw [this]; simp
        have hhj : fxX5_hasNumber (some (91 + 2 * s)) (nI j) (hp lp M) = some (bi (decide (j < sz) && !decide (c j = -1000000005)), hp lp M) := by
          rw [hhn, iwn (by omega) (by omega), zcl (by omega), hc j (by omega)]
        have ecj : M (92 + 2 * s) j = c j := hc j (by omega)
        have ev := hV i j hi hj (Ne.symm hji)
        by_cases h2 : j < sz ∧ c j = nI i
        · have hb2 : (decide (j < sz) && !decide (c j = -1000000005)) = true := by rw [decide_eq_true h2.1, h2.2, decide_eq_false (by rw [nNO (by omega)]; exact not_false)]; rfl
          rw [hb2] at hhj
          rw [h2.2] at ecj
          by_cases hv : V i j = -1
          · refine ⟨-1, ?_, Or.inl ⟨rfl, fun k hk hki => ?_⟩⟩
            · rw [hv] at ev
              simp (disch := omega) only [fxX7_toldMate, fxX7_toldMate_b61, am_gd_t, am_lt_e, am_bd_s, bi_0, bi_bz, bz0, bz1, nz2, nz10, nz100, hp_gi, hp_si, ↓reduceIte, if_true, if_false, Bool.true_eq_false, Bool.false_eq_true, eq_self, reduceCtorEq, zo0, zp0_0, zp0_1, zp0_2, zp0_4, zp0_5, zp0_6, zp0_7, zp0_8, zp0_9, zp0_10, zo1, zp1_0, zp1_5, zp1_6, zp1_9, zo16, zp16_0, zp16_5, zp16_6, zp16_9, zo31, zp31_0, zp31_5, zp31_6, zp31_9, zo46, zp46_0, zp46_1, zp46_2, zo79, zp79_0, zo83, zp83_0, zp83_1, zp83_2, zo87, zp87_0, zp87_1, zo121, zp121_0, zp121_1, zp121_2, zp121_4, zp121_5, zp121_6, zp121_7, zp121_8, zp121_16, zp121_17, zp121_18, zp121_21, zp121_23, zp121_24, zp121_25, zp121_26, zp121_27, zp121_28, zp121_29, zp121_30, zp121_31, zp121_32, zp121_33, zp121_34, zp79_2, zx2, zx13, zx14, zx15, zx17, zx28, zx29, zx30, zx32, zx43, zx44, zx45, zx47, zx78, zx80, zx84, zx85, zx86, zx88, zx89, zx90, zx99, zx120, zx122, zx123, zx124, zx125, zx126, zx127, zx128, zx129, zx130, zx131, zx132, zx133, zx134, zx135, zx136, zx137, zx138, zx139, zx140, zx141, zx142, zx143, zx144, zx145, zg2, zg17, zg32, zgo3, zgo18, zgo33, zl47, zlo, zlp, zlx, zs90, zso, zsp, zsx, zt99, zto, ztp1, ztp2, ztgo, ztso, ztsp, ztsx, zc0, zi0, zc1, zi1, zc2, zi2, zc3, zi3, zc4, zi4, zc5, zi5, zin, zcl, nI_1, Bool.and_self, Bool.true_and, Bool.and_true, hhi, ei, e3, q_within, hx, hne, hhj, ecj, one0, ix10, ev]
            · by_cases hkj : k = j
              · subst hkj
                unfold arB
                rw [decide_eq_true hv]; rfl
              · exact only k hk hkj
          · refine ⟨nI j, ?_, Or.inr ⟨j, hj, hji, rfl, ?_⟩⟩
            · simp (disch := omega) only [fxX7_toldMate, fxX7_toldMate_b61, am_gd_t, am_lt_e, am_bd_s, bi_0, bi_bz, bz0, bz1, nz2, nz10, nz100, hp_gi, hp_si, ↓reduceIte, if_true, if_false, Bool.true_eq_false, Bool.false_eq_true, eq_self, reduceCtorEq, zo0, zp0_0, zp0_1, zp0_2, zp0_4, zp0_5, zp0_6, zp0_7, zp0_8, zp0_9, zp0_10, zo1, zp1_0, zp1_5, zp1_6, zp1_9, zo16, zp16_0, zp16_5, zp16_6, zp16_9, zo31, zp31_0, zp31_5, zp31_6, zp31_9, zo46, zp46_0, zp46_1, zp46_2, zo79, zp79_0, zo83, zp83_0, zp83_1, zp83_2, zo87, zp87_0, zp87_1, zo121, zp121_0, zp121_1, zp121_2, zp121_4, zp121_5, zp121_6, zp121_7, zp121_8, zp121_16, zp121_17, zp121_18, zp121_21, zp121_23, zp121_24, zp121_25, zp121_26, zp121_27, zp121_28, zp121_29, zp121_30, zp121_31, zp121_32, zp121_33, zp121_34, zp79_2, zx2, zx13, zx14, zx15, zx17, zx28, zx29, zx30, zx32, zx43, zx44, zx45, zx47, zx78, zx80, zx84, zx85, zx86, zx88, zx89, zx90, zx99, zx120, zx122, zx123, zx124, zx125, zx126, zx127, zx128, zx129, zx130, zx131, zx132, zx133, zx134, zx135, zx136, zx137, zx138, zx139, zx140, zx141, zx142, zx143, zx144, zx145, zg2, zg17, zg32, zgo3, zgo18, zgo33, zl47, zlo, zlp, zlx, zs90, zso, zsp, zsx, zt99, zto, ztp1, ztp2, ztgo, ztso, ztsp, ztsx, zc0, zi0, zc1, zi1, zc2, zi2, zc3, zi3, zc4, zi4, zc5, zi5, zin, zcl, nI_1, Bool.and_self, Bool.true_and, Bool.and_true, hhi, ei, e3, q_within, hx, hne, hhj, ecj, one0, ix10, ev, hv]
            · unfold arB
              rw [decide_eq_false hv, decide_eq_true h1.1, decide_eq_true ej, decide_eq_true h2.1, decide_eq_true h2.2]; rfl
        · refine ⟨-1, ?_, Or.inl ⟨rfl, fun k hk hki => ?_⟩⟩
          · by_cases h3 : j < sz ∧ ¬ c j = -1000000005
            · have hb2 : (decide (j < sz) && !decide (c j = -1000000005)) = true := by rw [decide_eq_true h3.1, decide_eq_false h3.2]; rfl
              rw [hb2] at hhj
              have hcj : (c j = nI i) = False := eq_false (fun q => h2 ⟨h3.1, q⟩)
              simp (disch := omega) only [fxX7_toldMate, fxX7_toldMate_b60, fxX7_toldMate_b61, am_gd_t, am_lt_e, am_bd_s, bi_0, bi_bz, bz0, bz1, nz2, nz10, nz100, hp_gi, hp_si, ↓reduceIte, if_true, if_false, Bool.true_eq_false, Bool.false_eq_true, eq_self, reduceCtorEq, zo0, zp0_0, zp0_1, zp0_2, zp0_4, zp0_5, zp0_6, zp0_7, zp0_8, zp0_9, zp0_10, zo1, zp1_0, zp1_5, zp1_6, zp1_9, zo16, zp16_0, zp16_5, zp16_6, zp16_9, zo31, zp31_0, zp31_5, zp31_6, zp31_9, zo46, zp46_0, zp46_1, zp46_2, zo79, zp79_0, zo83, zp83_0, zp83_1, zp83_2, zo87, zp87_0, zp87_1, zo121, zp121_0, zp121_1, zp121_2, zp121_4, zp121_5, zp121_6, zp121_7, zp121_8, zp121_16, zp121_17, zp121_18, zp121_21, zp121_23, zp121_24, zp121_25, zp121_26, zp121_27, zp121_28, zp121_29, zp121_30, zp121_31, zp121_32, zp121_33, zp121_34, zp79_2, zx2, zx13, zx14, zx15, zx17, zx28, zx29, zx30, zx32, zx43, zx44, zx45, zx47, zx78, zx80, zx84, zx85, zx86, zx88, zx89, zx90, zx99, zx120, zx122, zx123, zx124, zx125, zx126, zx127, zx128, zx129, zx130, zx131, zx132, zx133, zx134, zx135, zx136, zx137, zx138, zx139, zx140, zx141, zx142, zx143, zx144, zx145, zg2, zg17, zg32, zgo3, zgo18, zgo33, zl47, zlo, zlp, zlx, zs90, zso, zsp, zsx, zt99, zto, ztp1, ztp2, ztgo, ztso, ztsp, ztsx, zc0, zi0, zc1, zi1, zc2, zi2, zc3, zi3, zc4, zi4, zc5, zi5, zin, zcl, nI_1, Bool.and_self, Bool.true_and, Bool.and_true, hhi, ei, e3, q_within, hx, hne, hhj, ecj, hcj]
            · have hb2 : (decide (j < sz) && !decide (c j = -1000000005)) = false := by
                by_cases q1 : j < sz
                · have q2 : c j = -1000000005 := Classical.byContradiction fun q => h3 ⟨q1, q⟩
                  rw [decide_eq_true q2]; simp
                · rw [decide_eq_false q1]; rfl
              rw [hb2] at hhj
              simp (disch := omega) only [fxX7_toldMate, fxX7_toldMate_b60, fxX7_toldMate_b61, am_gd_t, am_lt_e, am_bd_s, bi_0, bi_bz, bz0, bz1, nz2, nz10, nz100, hp_gi, hp_si, ↓reduceIte, if_true, if_false, Bool.true_eq_false, Bool.false_eq_true, eq_self, reduceCtorEq, zo0, zp0_0, zp0_1, zp0_2, zp0_4, zp0_5, zp0_6, zp0_7, zp0_8, zp0_9, zp0_10, zo1, zp1_0, zp1_5, zp1_6, zp1_9, zo16, zp16_0, zp16_5, zp16_6, zp16_9, zo31, zp31_0, zp31_5, zp31_6, zp31_9, zo46, zp46_0, zp46_1, zp46_2, zo79, zp79_0, zo83, zp83_0, zp83_1, zp83_2, zo87, zp87_0, zp87_1, zo121, zp121_0, zp121_1, zp121_2, zp121_4, zp121_5, zp121_6, zp121_7, zp121_8, zp121_16, zp121_17, zp121_18, zp121_21, zp121_23, zp121_24, zp121_25, zp121_26, zp121_27, zp121_28, zp121_29, zp121_30, zp121_31, zp121_32, zp121_33, zp121_34, zp79_2, zx2, zx13, zx14, zx15, zx17, zx28, zx29, zx30, zx32, zx43, zx44, zx45, zx47, zx78, zx80, zx84, zx85, zx86, zx88, zx89, zx90, zx99, zx120, zx122, zx123, zx124, zx125, zx126, zx127, zx128, zx129, zx130, zx131, zx132, zx133, zx134, zx135, zx136, zx137, zx138, zx139, zx140, zx141, zx142, zx143, zx144, zx145, zg2, zg17, zg32, zgo3, zgo18, zgo33, zl47, zlo, zlp, zlx, zs90, zso, zsp, zsx, zt99, zto, ztp1, ztp2, ztgo, ztso, ztsp, ztsx, zc0, zi0, zc1, zi1, zc2, zi2, zc3, zi3, zc4, zi4, zc5, zi5, zin, zcl, nI_1, Bool.and_self, Bool.true_and, Bool.and_true, hhi, ei, e3, q_within, hx, hne, hhj]
          · by_cases hkj : k = j
            · subst hkj
              unfold arB
              by_cases q1 : k < sz
              · have q2 : ¬ c k = nI i := fun q => h2 ⟨q1, q⟩
                rw [decide_eq_false q2]; simp
              · rw [decide_eq_false q1]; simp
            · exact only k hk hkj
  · have hb1 : (decide (i < sz) && !decide (c i = -1000000005)) = false := by
      by_cases q1 : i < sz
      · have q2 : c i = -1000000005 := Classical.byContradiction fun q => h1 ⟨q1, q⟩
        rw [decide_eq_true q2]; simp
      · rw [decide_eq_false q1]; rfl
    rw [hb1] at hhi
    refine ⟨-1, ?_, Or.inl ⟨rfl, fun k hk hki => ?_⟩⟩
    · simp (disch := omega) only [fxX7_toldMate, am_gd_t, am_lt_e, am_bd_s, bi_0, bi_bz, bz0, bz1, nz2, nz10, nz100, hp_gi, hp_si, ↓reduceIte, if_true, if_false, Bool.true_eq_false, Bool.false_eq_true, eq_self, reduceCtorEq, zo0, zp0_0, zp0_1, zp0_2, zp0_4, zp0_5, zp0_6, zp0_7, zp0_8, zp0_9, zp0_10, zo1, zp1_0, zp1_5, zp1_6, zp1_9, zo16, zp16_0, zp16_5, zp16_6, zp16_9, zo31, zp31_0, zp31_5, zp31_6, zp31_9, zo46, zp46_0, zp46_1, zp46_2, zo79, zp79_0, zo83, zp83_0, zp83_1, zp83_2, zo87, zp87_0, zp87_1, zo121, zp121_0, zp121_1, zp121_2, zp121_4, zp121_5, zp121_6, zp121_7, zp121_8, zp121_16, zp121_17, zp121_18, zp121_21, zp121_23, zp121_24, zp121_25, zp121_26, zp121_27, zp121_28, zp121_29, zp121_30, zp121_31, zp121_32, zp121_33, zp121_34, zp79_2, zx2, zx13, zx14, zx15, zx17, zx28, zx29, zx30, zx32, zx43, zx44, zx45, zx47, zx78, zx80, zx84, zx85, zx86, zx88, zx89, zx90, zx99, zx120, zx122, zx123, zx124, zx125, zx126, zx127, zx128, zx129, zx130, zx131, zx132, zx133, zx134, zx135, zx136, zx137, zx138, zx139, zx140, zx141, zx142, zx143, zx144, zx145, zg2, zg17, zg32, zgo3, zgo18, zgo33, zl47, zlo, zlp, zlx, zs90, zso, zsp, zsx, zt99, zto, ztp1, ztp2, ztgo, ztso, ztsp, ztsx, zc0, zi0, zc1, zi1, zc2, zi2, zc3, zi3, zc4, zi4, zc5, zi5, zin, zcl, nI_1, Bool.and_self, Bool.true_and, Bool.and_true, hhi]
    · unfold arB
      by_cases q1 : i < sz
      · have q2 : c i = -1000000005 := Classical.byContradiction fun q => h1 ⟨q1, q⟩
        have : decide (c i = nI k) = false := decide_eq_false (fun q => by rw [q2] at q; have := nNO (i := k) (by omega); rw [← q] at this; simp at this)
        rw [this]; simp
      · rw [decide_eq_false q1]; simp
theorem q_seat {lp s n sz : Nat} {M : Mem} {V : Nat → Nat → Int32} {c : Nat → Int32} (hs : s < 4) (hn : n ≤ 10) (hsz : sz ≤ 24) (e1 : M (91 + 2 * s) 1 = nI sz) (hc : ∀ k, k < 24 → M (92 + 2 * s) k = c k) (e3 : M 83 3 = nI n) (hV : ∀ a b, a < n → b < n → a ≠ b → M 84 (10 * a + b) = V a b) : ∃ M', fxX7_seat (some 83) (some (91 + 2 * s)) (hp lp M) = some ((), hp lp M') ∧ (∀ i, i < n → St V c sz n (M' 86 i) i) ∧ ∀ z, z ≠ 86 → M' z = M z := by
  have L : ∀ k i fuel (M1 : Mem), i + k = n → k < fuel → (∀ z, z ≠ 86 → M1 z = M z) → (∀ j, j < i → St V c sz n (M1 86 j) j) → ∃ M', fxX7_seat_b2 fuel (some 83) (some (91 + 2 * s)) (nI i) (hp lp M1) = some ((), hp lp M') ∧ (∀ i, i < n → St V c sz n (M' 86 i) i) ∧ ∀ z, z ≠ 86 → M' z = M z := by
    intro k
    induction k with
    | zero =>
      intro i fuel M1 hi hf hr hst
      obtain ⟨fuel, rfl⟩ : ∃ f, fuel = f + 1 := ⟨fuel - 1, by omega⟩
      obtain rfl : i = n := by omega
      have e3' : M1 83 3 = nI i := by rw [hr 83 (by decide)]; exact e3
      refine ⟨M1, ?_, hst, hr⟩
      simp (disch := omega) only [fxX7_seat_b2, am_gd_t, am_lt_e, am_bd_s, bi_0, bi_bz, bz0, bz1, nz2, nz10, nz100, hp_gi, hp_si, ↓reduceIte, if_true, if_false, Bool.true_eq_false, Bool.false_eq_true, eq_self, reduceCtorEq, zo0, zp0_0, zp0_1, zp0_2, zp0_4, zp0_5, zp0_6, zp0_7, zp0_8, zp0_9, zp0_10, zo1, zp1_0, zp1_5, zp1_6, zp1_9, zo16, zp16_0, zp16_5, zp16_6, zp16_9, zo31, zp31_0, zp31_5, zp31_6, zp31_9, zo46, zp46_0, zp46_1, zp46_2, zo79, zp79_0, zo83, zp83_0, zp83_1, zp83_2, zo87, zp87_0, zp87_1, zo121, zp121_0, zp121_1, zp121_2, zp121_4, zp121_5, zp121_6, zp121_7, zp121_8, zp121_16, zp121_17, zp121_18, zp121_21, zp121_23, zp121_24, zp121_25, zp121_26, zp121_27, zp121_28, zp121_29, zp121_30, zp121_31, zp121_32, zp121_33, zp121_34, zp79_2, zx2, zx13, zx14, zx15, zx17, zx28, zx29, zx30, zx32, zx43, zx44, zx45, zx47, zx78, zx80, zx84, zx85, zx86, zx88, zx89, zx90, zx99, zx120, zx122, zx123, zx124, zx125, zx126, zx127, zx128, zx129, zx130, zx131, zx132, zx133, zx134, zx135, zx136, zx137, zx138, zx139, zx140, zx141, zx142, zx143, zx144, zx145, zg2, zg17, zg32, zgo3, zgo18, zgo33, zl47, zlo, zlp, zlx, zs90, zso, zsp, zsx, zt99, zto, ztp1, ztp2, ztgo, ztso, ztsp, ztsx, zc0, zi0, zc1, zi1, zc2, zi2, zc3, zi3, zc4, zi4, zc5, zi5, e3', zle']
    | succ k ih =>
      intro i fuel M1 hi hf hr hst
      obtain ⟨fuel, rfl⟩ : ∃ f, fuel = f + 1 := ⟨fuel - 1, by omega⟩
      have e3' : M1 83 3 = nI n := by rw [hr 83 (by decide)]; exact e3
      obtain ⟨t, p1, p2⟩ := q_toldMate (lp := lp) (M := M1) (V := V) (c := c) hs hn (show i < n by omega) hsz (by rw [hr _ (by omega)]; exact e1) (by rw [hr _ (by omega)]; exact hc) e3' (by rw [hr 84 (by decide)]; exact hV)
      obtain ⟨M', q1, q2, q3⟩ := ih (i + 1) fuel (am_up M1 86 i t) (by omega) (by omega) (fun z hz => by rw [am_up_ne hz, hr z hz]) (fun j hj => by
        rw [up_row]
        by_cases q : j = i
        · subst q; rw [up1_eq]; exact p2
        · rw [up1_ne q]; exact hst j (by omega))
      refine ⟨M', ?_, q2, q3⟩
      simp (disch := omega) only [fxX7_seat_b2, am_gd_t, am_lt_e, am_bd_s, bi_0, bi_bz, bz0, bz1, nz2, nz10, nz100, hp_gi, hp_si, ↓reduceIte, if_true, if_false, Bool.true_eq_false, Bool.false_eq_true, eq_self, reduceCtorEq, zo0, zp0_0, zp0_1, zp0_2, zp0_4, zp0_5, zp0_6, zp0_7, zp0_8, zp0_9, zp0_10, zo1, zp1_0, zp1_5, zp1_6, zp1_9, zo16, zp16_0, zp16_5, zp16_6, zp16_9, zo31, zp31_0, zp31_5, zp31_6, zp31_9, zo46, zp46_0, zp46_1, zp46_2, zo79, zp79_0, zo83, zp83_0, zp83_1, zp83_2, zo87, zp87_0, zp87_1, zo121, zp121_0, zp121_1, zp121_2, zp121_4, zp121_5, zp121_6, zp121_7, zp121_8, zp121_16, zp121_17, zp121_18, zp121_21, zp121_23, zp121_24, zp121_25, zp121_26, zp121_27, zp121_28, zp121_29, zp121_30, zp121_31, zp121_32, zp121_33, zp121_34, zp79_2, zx2, zx13, zx14, zx15, zx17, zx28, zx29, zx30, zx32, zx43, zx44, zx45, zx47, zx78, zx80, zx84, zx85, zx86, zx88, zx89, zx90, zx99, zx120, zx122, zx123, zx124, zx125, zx126, zx127, zx128, zx129, zx130, zx131, zx132, zx133, zx134, zx135, zx136, zx137, zx138, zx139, zx140, zx141, zx142, zx143, zx144, zx145, zg2, zg17, zg32, zgo3, zgo18, zgo33, zl47, zlo, zlp, zlx, zs90, zso, zsp, zsx, zt99, zto, ztp1, ztp2, ztgo, ztso, ztsp, ztsx, zc0, zi0, zc1, zi1, zc2, zi2, zc3, zi3, zc4, zi4, zc5, zi5, zin, zcl, nI_1, Bool.and_self, Bool.true_and, Bool.and_true, e3', zle, p1]
      exact q1
  obtain ⟨M', q⟩ := L n 0 am_F M (by omega) (by unfold am_F; omega) (fun _ _ => rfl) (fun j hj => by omega)
  refine ⟨M', ?_, q.2⟩
  simp only [fxX7_seat, am_gd_t, am_lt_e, am_bd_s, bi_0, bi_bz, bz0, bz1, nz2, nz10, nz100, hp_gi, hp_si]
  exact q.1
/-- what g has by the sheet -/
def hbS (V : Nat → Nat → Int32) (c : Nat → Int32) (sz g : Nat) : Nat → Nat → Int32
  | 0, _ => 0
  | k + 1, i => if ¬ i = g ∧ arB V c sz g i = true then V g i else hbS V c sz g k (i + 1)
theorem hb_0 {V : Nat → Nat → Int32} {c : Nat → Int32} {sz g n : Nat} (h : ∀ k, k < n → k ≠ g → arB V c sz g k = false) : ∀ k i, i + k = n → hbS V c sz g k i = 0 := by
  intro k
  induction k with
  | zero => intro i _; rfl
  | succ k ih =>
    intro i hi
    unfold hbS
    rw [if_neg (fun q => by rw [h i (by omega) q.1] at q; simp at q)]
    exact ih (i + 1) (by omega)
theorem ar_one {V : Nat → Nat → Int32} {c : Nat → Int32} {sz a b d : Nat} (hb : b < 100) (hd : d < 100) (h1 : arB V c sz a b = true) (h2 : arB V c sz a d = true) : b = d := by
  unfold arB at h1 h2
  simp only [Bool.and_eq_true, decide_eq_true_eq] at h1 h2
  have := h1.2.1.2.symm.trans h2.2.1.2
  exact (nI_eq (by omega) (by omega)).mp this
theorem hb_v {V : Nat → Nat → Int32} {c : Nat → Int32} {sz g n j : Nat} (hn : n ≤ 10) (hj : j < n) (hjg : j ≠ g) (h : arB V c sz g j = true) : ∀ k i, i + k = n → i ≤ j → hbS V c sz g k i = V g j := by
  intro k
  induction k with
  | zero => intro i h1 h2; omega
  | succ k ih =>
    intro i hi hij
    unfold hbS
    by_cases q : i = j
    · subst q
      rw [if_pos ⟨hjg, h⟩]
    · rw [if_neg (fun x => q (ar_one (by omega) (by omega) x.2 h))]
      exact ih (i + 1) (by omega) (by omega)
theorem q_vSeated {lp n sz i : Nat} {M : Mem} {V : Nat → Nat → Int32} {c : Nat → Int32} (hn : n ≤ 10) (hi : i < n) (hV : ∀ a b, a < n → b < n → a ≠ b → M 84 (10 * a + b) = V a b) (hst : St V c sz n (M 86 i) i) : fxX7_valueSeated (some 83) (nI i) (hp lp M) = some (hbS V c sz i n 0, hp lp M) := by
  rcases hst with ⟨h1, h2⟩ | ⟨j, h1, h2, h3, h4⟩
  · rw [hb_0 h2 n 0 (by omega)]
    simp (disch := omega) only [fxX7_valueSeated, am_gd_t, am_lt_e, am_bd_s, bi_0, bi_bz, bz0, bz1, nz2, nz10, nz100, hp_gi, hp_si, ↓reduceIte, if_true, if_false, Bool.true_eq_false, Bool.false_eq_true, eq_self, reduceCtorEq, zo0, zp0_0, zp0_1, zp0_2, zp0_4, zp0_5, zp0_6, zp0_7, zp0_8, zp0_9, zp0_10, zo1, zp1_0, zp1_5, zp1_6, zp1_9, zo16, zp16_0, zp16_5, zp16_6, zp16_9, zo31, zp31_0, zp31_5, zp31_6, zp31_9, zo46, zp46_0, zp46_1, zp46_2, zo79, zp79_0, zo83, zp83_0, zp83_1, zp83_2, zo87, zp87_0, zp87_1, zo121, zp121_0, zp121_1, zp121_2, zp121_4, zp121_5, zp121_6, zp121_7, zp121_8, zp121_16, zp121_17, zp121_18, zp121_21, zp121_23, zp121_24, zp121_25, zp121_26, zp121_27, zp121_28, zp121_29, zp121_30, zp121_31, zp121_32, zp121_33, zp121_34, zp79_2, zx2, zx13, zx14, zx15, zx17, zx28, zx29, zx30, zx32, zx43, zx44, zx45, zx47, zx78, zx80, zx84, zx85, zx86, zx88, zx89, zx90, zx99, zx120, zx122, zx123, zx124, zx125, zx126, zx127, zx128, zx129, zx130, zx131, zx132, zx133, zx134, zx135, zx136, zx137, zx138, zx139, zx140, zx141, zx142, zx143, zx144, zx145, zg2, zg17, zg32, zgo3, zgo18, zgo33, zl47, zlo, zlp, zlx, zs90, zso, zsp, zsx, zt99, zto, ztp1, ztp2, ztgo, ztso, ztsp, ztsx, zc0, zi0, zc1, zi1, zc2, zi2, zc3, zi3, zc4, zi4, zc5, zi5, zin, zcl, nI_1, Bool.and_self, Bool.true_and, Bool.and_true, h1]
  · rw [hb_v hn h1 h2 h4 n 0 (by omega) (by omega)]
    have ev := hV i j hi h1 (Ne.symm h2)
    simp (disch := omega) only [fxX7_valueSeated, am_gd_t, am_lt_e, am_bd_s, bi_0, bi_bz, bz0, bz1, nz2, nz10, nz100, hp_gi, hp_si, ↓reduceIte, if_true, if_false, Bool.true_eq_false, Bool.false_eq_true, eq_self, reduceCtorEq, zo0, zp0_0, zp0_1, zp0_2, zp0_4, zp0_5, zp0_6, zp0_7, zp0_8, zp0_9, zp0_10, zo1, zp1_0, zp1_5, zp1_6, zp1_9, zo16, zp16_0, zp16_5, zp16_6, zp16_9, zo31, zp31_0, zp31_5, zp31_6, zp31_9, zo46, zp46_0, zp46_1, zp46_2, zo79, zp79_0, zo83, zp83_0, zp83_1, zp83_2, zo87, zp87_0, zp87_1, zo121, zp121_0, zp121_1, zp121_2, zp121_4, zp121_5, zp121_6, zp121_7, zp121_8, zp121_16, zp121_17, zp121_18, zp121_21, zp121_23, zp121_24, zp121_25, zp121_26, zp121_27, zp121_28, zp121_29, zp121_30, zp121_31, zp121_32, zp121_33, zp121_34, zp79_2, zx2, zx13, zx14, zx15, zx17, zx28, zx29, zx30, zx32, zx43, zx44, zx45, zx47, zx78, zx80, zx84, zx85, zx86, zx88, zx89, zx90, zx99, zx120, zx122, zx123, zx124, zx125, zx126, zx127, zx128, zx129, zx130, zx131, zx132, zx133, zx134, zx135, zx136, zx137, zx138, zx139, zx140, zx141, zx142, zx143, zx144, zx145, zg2, zg17, zg32, zgo3, zgo18, zgo33, zl47, zlo, zlp, zlx, zs90, zso, zsp, zsx, zt99, zto, ztp1, ztp2, ztgo, ztso, ztsp, ztsx, zc0, zi0, zc1, zi1, zc2, zi2, zc3, zi3, zc4, zi4, zc5, zi5, zin, zcl, nI_1, Bool.and_self, Bool.true_and, Bool.and_true, h3, nI_nm1, ix10, ev]
/-- the first two that leave -/
def lvI (V : Nat → Nat → Int32) (c : Nat → Int32) (sz n i : Nat) : Nat → Nat → Option Nat
  | 0, _ => none
  | k + 1, j => if arB V c sz i j = true ∨ V i j ≤ hbS V c sz i n 0 ∨ V i j ≤ hbS V c sz j n 0 then lvI V c sz n i k (j + 1) else some (100 * i + j)
def lvO (V : Nat → Nat → Int32) (c : Nat → Int32) (sz n : Nat) : Nat → Nat → Int32
  | 0, _ => -1000000005
  | k + 1, i => match lvI V c sz n i (n - (i + 1)) (i + 1) with
    | some v => nI v
    | none => lvO V c sz n k (i + 1)
theorem ix100 (i j : Nat) : (100 : Int32) * nI i + nI j = nI (100 * i + j) := by
  rw [show (100 : Int32) = nI 100 from rfl, pk_mul, nI_add]
theorem lv_in {lp n sz i : Nat} {M : Mem} {V : Nat → Nat → Int32} {c : Nat → Int32} (hn : n ≤ 10) (hi : i < n) (e3 : M 83 3 = nI n) (hV : ∀ a b, a < n → b < n → a ≠ b → M 84 (10 * a + b) = V a b) (hst : ∀ i, i < n → St V c sz n (M 86 i) i) (k2 : Option Nat → Int32 → am_H → Option (Int32 × am_H)) : ∀ k j fuel, j + k = n → i < j → k < fuel → fxX7_firstToLeave_b14 k2 fuel (some 83) (nI i) (nI j) (hp lp M) = (match lvI V c sz n i k j with | some v => some (nI v, hp lp M) | none => k2 (some 83) (nI (i + 1)) (hp lp M)) := by
  intro k
  induction k with
  | zero =>
    intro j fuel hj hij hf
    obtain ⟨fuel, rfl⟩ : ∃ f, fuel = f + 1 := ⟨fuel - 1, by omega⟩
    obtain rfl : j = n := by omega
    simp (disch := omega) only [fxX7_firstToLeave_b14, am_gd_t, am_lt_e, am_bd_s, bi_0, bi_bz, bz0, bz1, nz2, nz10, nz100, hp_gi, hp_si, ↓reduceIte, if_true, if_false, Bool.true_eq_false, Bool.false_eq_true, eq_self, reduceCtorEq, zo0, zp0_0, zp0_1, zp0_2, zp0_4, zp0_5, zp0_6, zp0_7, zp0_8, zp0_9, zp0_10, zo1, zp1_0, zp1_5, zp1_6, zp1_9, zo16, zp16_0, zp16_5, zp16_6, zp16_9, zo31, zp31_0, zp31_5, zp31_6, zp31_9, zo46, zp46_0, zp46_1, zp46_2, zo79, zp79_0, zo83, zp83_0, zp83_1, zp83_2, zo87, zp87_0, zp87_1, zo121, zp121_0, zp121_1, zp121_2, zp121_4, zp121_5, zp121_6, zp121_7, zp121_8, zp121_16, zp121_17, zp121_18, zp121_21, zp121_23, zp121_24, zp121_25, zp121_26, zp121_27, zp121_28, zp121_29, zp121_30, zp121_31, zp121_32, zp121_33, zp121_34, zp79_2, zx2, zx13, zx14, zx15, zx17, zx28, zx29, zx30, zx32, zx43, zx44, zx45, zx47, zx78, zx80, zx84, zx85, zx86, zx88, zx89, zx90, zx99, zx120, zx122, zx123, zx124, zx125, zx126, zx127, zx128, zx129, zx130, zx131, zx132, zx133, zx134, zx135, zx136, zx137, zx138, zx139, zx140, zx141, zx142, zx143, zx144, zx145, zg2, zg17, zg32, zgo3, zgo18, zgo33, zl47, zlo, zlp, zlx, zs90, zso, zsp, zsx, zt99, zto, ztp1, ztp2, ztgo, ztso, ztsp, ztsx, zc0, zi0, zc1, zi1, zc2, zi2, zc3, zi3, zc4, zi4, zc5, zi5, e3, zle', nI_1, lvI]
  | succ k ih =>
    intro j fuel hj hij hf
    obtain ⟨fuel, rfl⟩ : ∃ f, fuel = f + 1 := ⟨fuel - 1, by omega⟩
    have hI := ih (j + 1) fuel (by omega) (by omega) (by omega)
    have ev := hV i j hi (by omega) (by omega)
    have s1 := q_vSeated (lp := lp) hn hi hV (hst i hi)
    have s2 := q_vSeated (lp := lp) hn (show j < n by omega) hV (hst j (by omega))
    have hse : (M 86 i = nI j) = (arB V c sz i j = true) := by
      apply propext
      rcases hst i hi with ⟨h1, h2⟩ | ⟨y, h1, h2, h3, h4⟩
      · rw [h1, h2 j (by omega) (by omega)]
        constructor
        · intro q; have := nI_nm1 (t := j) (by omega); rw [← q] at this; simp at this
        · intro q; cases q
      · rw [h3]
        constructor
        · intro q
          have := (nI_eq (by omega) (by omega)).mp q
          subst this; exact h4
        · intro q
          rw [ar_one (by omega) (by omega) h4 q]
    unfold lvI
    by_cases c1 : arB V c sz i j = true
    · rw [if_pos (Or.inl c1), ← hI]
      simp (disch := omega) only [fxX7_firstToLeave_b14, fxX7_firstToLeave_b69, am_gd_t, am_lt_e, am_bd_s, bi_0, bi_bz, bz0, bz1, nz2, nz10, nz100, hp_gi, hp_si, ↓reduceIte, if_true, if_false, Bool.true_eq_false, Bool.false_eq_true, eq_self, reduceCtorEq, zo0, zp0_0, zp0_1, zp0_2, zp0_4, zp0_5, zp0_6, zp0_7, zp0_8, zp0_9, zp0_10, zo1, zp1_0, zp1_5, zp1_6, zp1_9, zo16, zp16_0, zp16_5, zp16_6, zp16_9, zo31, zp31_0, zp31_5, zp31_6, zp31_9, zo46, zp46_0, zp46_1, zp46_2, zo79, zp79_0, zo83, zp83_0, zp83_1, zp83_2, zo87, zp87_0, zp87_1, zo121, zp121_0, zp121_1, zp121_2, zp121_4, zp121_5, zp121_6, zp121_7, zp121_8, zp121_16, zp121_17, zp121_18, zp121_21, zp121_23, zp121_24, zp121_25, zp121_26, zp121_27, zp121_28, zp121_29, zp121_30, zp121_31, zp121_32, zp121_33, zp121_34, zp79_2, zx2, zx13, zx14, zx15, zx17, zx28, zx29, zx30, zx32, zx43, zx44, zx45, zx47, zx78, zx80, zx84, zx85, zx86, zx88, zx89, zx90, zx99, zx120, zx122, zx123, zx124, zx125, zx126, zx127, zx128, zx129, zx130, zx131, zx132, zx133, zx134, zx135, zx136, zx137, zx138, zx139, zx140, zx141, zx142, zx143, zx144, zx145, zg2, zg17, zg32, zgo3, zgo18, zgo33, zl47, zlo, zlp, zlx, zs90, zso, zsp, zsx, zt99, zto, ztp1, ztp2, ztgo, ztso, ztsp, ztsx, zc0, zi0, zc1, zi1, zc2, zi2, zc3, zi3, zc4, zi4, zc5, zi5, zin, zcl, nI_1, Bool.and_self, Bool.true_and, Bool.and_true, e3, zle, ix10, hse, c1]
    · by_cases c2 : V i j ≤ hbS V c sz i n 0
      · rw [if_pos (Or.inr (Or.inl c2)), ← hI]
        simp (disch := omega) only [fxX7_firstToLeave_b14, fxX7_firstToLeave_b69, am_gd_t, am_lt_e, am_bd_s, bi_0, bi_bz, bz0, bz1, nz2, nz10, nz100, hp_gi, hp_si, ↓reduceIte, if_true, if_false, Bool.true_eq_false, Bool.false_eq_true, eq_self, reduceCtorEq, zo0, zp0_0, zp0_1, zp0_2, zp0_4, zp0_5, zp0_6, zp0_7, zp0_8, zp0_9, zp0_10, zo1, zp1_0, zp1_5, zp1_6, zp1_9, zo16, zp16_0, zp16_5, zp16_6, zp16_9, zo31, zp31_0, zp31_5, zp31_6, zp31_9, zo46, zp46_0, zp46_1, zp46_2, zo79, zp79_0, zo83, zp83_0, zp83_1, zp83_2, zo87, zp87_0, zp87_1, zo121, zp121_0, zp121_1, zp121_2, zp121_4, zp121_5, zp121_6, zp121_7, zp121_8, zp121_16, zp121_17, zp121_18, zp121_21, zp121_23, zp121_24, zp121_25, zp121_26, zp121_27, zp121_28, zp121_29, zp121_30, zp121_31, zp121_32, zp121_33, zp121_34, zp79_2, zx2, zx13, zx14, zx15, zx17, zx28, zx29, zx30, zx32, zx43, zx44, zx45, zx47, zx78, zx80, zx84, zx85, zx86, zx88, zx89, zx90, zx99, zx120, zx122, zx123, zx124, zx125, zx126, zx127, zx128, zx129, zx130, zx131, zx132, zx133, zx134, zx135, zx136, zx137, zx138, zx139, zx140, zx141, zx142, zx143, zx144, zx145, zg2, zg17, zg32, zgo3, zgo18, zgo33, zl47, zlo, zlp, zlx, zs90, zso, zsp, zsx, zt99, zto, ztp1, ztp2, ztgo, ztso, ztsp, ztsx, zc0, zi0, zc1, zi1, zc2, zi2, zc3, zi3, zc4, zi4, zc5, zi5, zin, zcl, nI_1, Bool.and_self, Bool.true_and, Bool.and_true, e3, zle, ix10, hse, c1, s1, ev, c2]
      · by_cases c3 : V i j ≤ hbS V c sz j n 0
        · rw [if_pos (Or.inr (Or.inr c3)), ← hI]
          simp (disch := omega) only [fxX7_firstToLeave_b14, fxX7_firstToLeave_b69, am_gd_t, am_lt_e, am_bd_s, bi_0, bi_bz, bz0, bz1, nz2, nz10, nz100, hp_gi, hp_si, ↓reduceIte, if_true, if_false, Bool.true_eq_false, Bool.false_eq_true, eq_self, reduceCtorEq, zo0, zp0_0, zp0_1, zp0_2, zp0_4, zp0_5, zp0_6, zp0_7, zp0_8, zp0_9, zp0_10, zo1, zp1_0, zp1_5, zp1_6, zp1_9, zo16, zp16_0, zp16_5, zp16_6, zp16_9, zo31, zp31_0, zp31_5, zp31_6, zp31_9, zo46, zp46_0, zp46_1, zp46_2, zo79, zp79_0, zo83, zp83_0, zp83_1, zp83_2, zo87, zp87_0, zp87_1, zo121, zp121_0, zp121_1, zp121_2, zp121_4, zp121_5, zp121_6, zp121_7, zp121_8, zp121_16, zp121_17, zp121_18, zp121_21, zp121_23, zp121_24, zp121_25, zp121_26, zp121_27, zp121_28, zp121_29, zp121_30, zp121_31, zp121_32, zp121_33, zp121_34, zp79_2, zx2, zx13, zx14, zx15, zx17, zx28, zx29, zx30, zx32, zx43, zx44, zx45, zx47, zx78, zx80, zx84, zx85, zx86, zx88, zx89, zx90, zx99, zx120, zx122, zx123, zx124, zx125, zx126, zx127, zx128, zx129, zx130, zx131, zx132, zx133, zx134, zx135, zx136, zx137, zx138, zx139, zx140, zx141, zx142, zx143, zx144, zx145, zg2, zg17, zg32, zgo3, zgo18, zgo33, zl47, zlo, zlp, zlx, zs90, zso, zsp, zsx, zt99, zto, ztp1, ztp2, ztgo, ztso, ztsp, ztsx, zc0, zi0, zc1, zi1, zc2, zi2, zc3, zi3, zc4, zi4, zc5, zi5, zin, zcl, nI_1, Bool.and_self, Bool.true_and, Bool.and_true, e3, zle, ix10, hse, c1, s1, s2, ev, c2, c3]
        · rw [if_neg (by rintro (q | q | q) <;> contradiction)]
          simp (disch := omega) only [fxX7_firstToLeave_b14, fxX7_firstToLeave_b69, am_gd_t, am_lt_e, am_bd_s, bi_0, bi_bz, bz0, bz1, nz2, nz10, nz100, hp_gi, hp_si, ↓reduceIte, if_true, if_false, Bool.true_eq_false, Bool.false_eq_true, eq_self, reduceCtorEq, zo0, zp0_0, zp0_1, zp0_2, zp0_4, zp0_5, zp0_6, zp0_7, zp0_8, zp0_9, zp0_10, zo1, zp1_0, zp1_5, zp1_6, zp1_9, zo16, zp16_0, zp16_5, zp16_6, zp16_9, zo31, zp31_0, zp31_5, zp31_6, zp31_9, zo46, zp46_0, zp46_1, zp46_2, zo79, zp79_0, zo83, zp83_0, zp83_1, zp83_2, zo87, zp87_0, zp87_1, zo121, zp121_0, zp121_1, zp121_2, zp121_4, zp121_5, zp121_6, zp121_7, zp121_8, zp121_16, zp121_17, zp121_18, zp121_21, zp121_23, zp121_24, zp121_25, zp121_26, zp121_27, zp121_28, zp121_29, zp121_30, zp121_31, zp121_32, zp121_33, zp121_34, zp79_2, zx2, zx13, zx14, zx15, zx17, zx28, zx29, zx30, zx32, zx43, zx44, zx45, zx47, zx78, zx80, zx84, zx85, zx86, zx88, zx89, zx90, zx99, zx120, zx122, zx123, zx124, zx125, zx126, zx127, zx128, zx129, zx130, zx131, zx132, zx133, zx134, zx135, zx136, zx137, zx138, zx139, zx140, zx141, zx142, zx143, zx144, zx145, zg2, zg17, zg32, zgo3, zgo18, zgo33, zl47, zlo, zlp, zlx, zs90, zso, zsp, zsx, zt99, zto, ztp1, ztp2, ztgo, ztso, ztsp, ztsx, zc0, zi0, zc1, zi1, zc2, zi2, zc3, zi3, zc4, zi4, zc5, zi5, zin, zcl, nI_1, Bool.and_self, Bool.true_and, Bool.and_true, e3, zle, ix10, hse, c1, s1, s2, ev, c2, c3, ix100]
theorem q_firstLeave {lp n sz : Nat} {M : Mem} {V : Nat → Nat → Int32} {c : Nat → Int32} (hn : n ≤ 10) (e3 : M 83 3 = nI n) (hV : ∀ a b, a < n → b < n → a ≠ b → M 84 (10 * a + b) = V a b) (hst : ∀ i, i < n → St V c sz n (M 86 i) i) : fxX7_firstToLeave (some 83) (hp lp M) = some (lvO V c sz n n 0, hp lp M) := by
  have L : ∀ k i fuel, i + k = n → k < fuel → fxX7_firstToLeave_b2 fuel (some 83) (nI i) (hp lp M) = some (lvO V c sz n k i, hp lp M) := by
    intro k
    induction k with
    | zero =>
      intro i fuel hi hf
      obtain ⟨fuel, rfl⟩ : ∃ f, fuel = f + 1 := ⟨fuel - 1, by omega⟩
      obtain rfl : i = n := by omega
      simp (disch := omega) only [fxX7_firstToLeave_b2, am_gd_t, am_lt_e, am_bd_s, bi_0, bi_bz, bz0, bz1, nz2, nz10, nz100, hp_gi, hp_si, ↓reduceIte, if_true, if_false, Bool.true_eq_false, Bool.false_eq_true, eq_self, reduceCtorEq, zo0, zp0_0, zp0_1, zp0_2, zp0_4, zp0_5, zp0_6, zp0_7, zp0_8, zp0_9, zp0_10, zo1, zp1_0, zp1_5, zp1_6, zp1_9, zo16, zp16_0, zp16_5, zp16_6, zp16_9, zo31, zp31_0, zp31_5, zp31_6, zp31_9, zo46, zp46_0, zp46_1, zp46_2, zo79, zp79_0, zo83, zp83_0, zp83_1, zp83_2, zo87, zp87_0, zp87_1, zo121, zp121_0, zp121_1, zp121_2, zp121_4, zp121_5, zp121_6, zp121_7, zp121_8, zp121_16, zp121_17, zp121_18, zp121_21, zp121_23, zp121_24, zp121_25, zp121_26, zp121_27, zp121_28, zp121_29, zp121_30, zp121_31, zp121_32, zp121_33, zp121_34, zp79_2, zx2, zx13, zx14, zx15, zx17, zx28, zx29, zx30, zx32, zx43, zx44, zx45, zx47, zx78, zx80, zx84, zx85, zx86, zx88, zx89, zx90, zx99, zx120, zx122, zx123, zx124, zx125, zx126, zx127, zx128, zx129, zx130, zx131, zx132, zx133, zx134, zx135, zx136, zx137, zx138, zx139, zx140, zx141, zx142, zx143, zx144, zx145, zg2, zg17, zg32, zgo3, zgo18, zgo33, zl47, zlo, zlp, zlx, zs90, zso, zsp, zsx, zt99, zto, ztp1, ztp2, ztgo, ztso, ztsp, ztsx, zc0, zi0, zc1, zi1, zc2, zi2, zc3, zi3, zc4, zi4, zc5, zi5, e3, zle', lvO]
    | succ k ih =>
      intro i fuel hi hf
      obtain ⟨fuel, rfl⟩ : ∃ f, fuel = f + 1 := ⟨fuel - 1, by omega⟩
      have hI := ih (i + 1) fuel (by omega) (by omega)
      have hin := lv_in (lp := lp) hn (show i < n by omega) e3 hV hst (fxX7_firstToLeave_b2 fuel) (n - (i + 1)) (i + 1) am_F (by omega) (by omega) (by unfold am_F; omega)
      simp (disch := omega) only [fxX7_firstToLeave_b2, am_gd_t, am_lt_e, am_bd_s, bi_0, bi_bz, bz0, bz1, nz2, nz10, nz100, hp_gi, hp_si, ↓reduceIte, if_true, if_false, Bool.true_eq_false, Bool.false_eq_true, eq_self, reduceCtorEq, zo0, zp0_0, zp0_1, zp0_2, zp0_4, zp0_5, zp0_6, zp0_7, zp0_8, zp0_9, zp0_10, zo1, zp1_0, zp1_5, zp1_6, zp1_9, zo16, zp16_0, zp16_5, zp16_6, zp16_9, zo31, zp31_0, zp31_5, zp31_6, zp31_9, zo46, zp46_0, zp46_1, zp46_2, zo79, zp79_0, zo83, zp83_0, zp83_1, zp83_2, zo87, zp87_0, zp87_1, zo121, zp121_0, zp121_1, zp121_2, zp121_4, zp121_5, zp121_6, zp121_7, zp121_8, zp121_16, zp121_17, zp121_18, zp121_21, zp121_23, zp121_24, zp121_25, zp121_26, zp121_27, zp121_28, zp121_29, zp121_30, zp121_31, zp121_32, zp121_33, zp121_34, zp79_2, zx2, zx13, zx14, zx15, zx17, zx28, zx29, zx30, zx32, zx43, zx44, zx45, zx47, zx78, zx80, zx84, zx85, zx86, zx88, zx89, zx90, zx99, zx120, zx122, zx123, zx124, zx125, zx126, zx127, zx128, zx129, zx130, zx131, zx132, zx133, zx134, zx135, zx136, zx137, zx138, zx139, zx140, zx141, zx142, zx143, zx144, zx145, zg2, zg17, zg32, zgo3, zgo18, zgo33, zl47, zlo, zlp, zlx, zs90, zso, zsp, zsx, zt99, zto, ztp1, ztp2, ztgo, ztso, ztsp, ztsx, zc0, zi0, zc1, zi1, zc2, zi2, zc3, zi3, zc4, zi4, zc5, zi5, e3, zle, nI_1, hin]
      unfold lvO
      cases lvI V c sz n i (n - (i + 1)) (i + 1) with
      | none => exact hI
      | some v => rfl
  have := L n 0 am_F (by omega) (by unfold am_F; omega)
  simp only [fxX7_firstToLeave, am_gd_t, am_lt_e, am_bd_s, bi_0, bi_bz, bz0, bz1, nz2, nz10, nz100, hp_gi, hp_si]
  exact this
theorem q_arePart {lp s n sz a b : Nat} {M : Mem} {V : Nat → Nat → Int32} {c : Nat → Int32} (hs : s < 4) (hn : n ≤ 10) (ha : a < n) (hb : b < n) (hab : a ≠ b) (hsz : sz ≤ 24) (e1 : M 138 s = nI sz) (hc : ∀ k, k < 24 → M 139 (24 * s + k) = c k) (hV : ∀ a b, a < n → b < n → a ≠ b → M 125 (10 * a + b) = V a b) (hVp : ∀ a b, V a b = -1 ∨ ∃ v, v ≤ 999 ∧ V a b = nI v) : fxX10_arePartners (some 121) (nI s) (nI a) (nI b) (hp lp M) = some (bi (arB V c sz a b), hp lp M) := by
  have ht : ∀ x y, x < n → y < n → fxX10_isTold (some 121) (nI s) (nI x) (nI y) (hp lp M) = some (bi (decide (x < sz) && decide (c x = nI y)), hp lp M) := by
    intro x y hx hy
    have ec := hc x (by omega)
    by_cases h1 : x < sz
    · by_cases h2 : c x = nI y
      · rw [decide_eq_true h1, decide_eq_true h2]
        rw [h2] at ec
        simp (disch := omega) only [fxX10_isTold, am_gd_t, am_lt_e, am_bd_s, bi_0, bi_bz, bz0, bz1, nz2, nz10, nz100, hp_gi, hp_si, ↓reduceIte, if_true, if_false, Bool.true_eq_false, Bool.false_eq_true, eq_self, reduceCtorEq, zo0, zp0_0, zp0_1, zp0_2, zp0_4, zp0_5, zp0_6, zp0_7, zp0_8, zp0_9, zp0_10, zo1, zp1_0, zp1_5, zp1_6, zp1_9, zo16, zp16_0, zp16_5, zp16_6, zp16_9, zo31, zp31_0, zp31_5, zp31_6, zp31_9, zo46, zp46_0, zp46_1, zp46_2, zo79, zp79_0, zo83, zp83_0, zp83_1, zp83_2, zo87, zp87_0, zp87_1, zo121, zp121_0, zp121_1, zp121_2, zp121_4, zp121_5, zp121_6, zp121_7, zp121_8, zp121_16, zp121_17, zp121_18, zp121_21, zp121_23, zp121_24, zp121_25, zp121_26, zp121_27, zp121_28, zp121_29, zp121_30, zp121_31, zp121_32, zp121_33, zp121_34, zp79_2, zx2, zx13, zx14, zx15, zx17, zx28, zx29, zx30, zx32, zx43, zx44, zx45, zx47, zx78, zx80, zx84, zx85, zx86, zx88, zx89, zx90, zx99, zx120, zx122, zx123, zx124, zx125, zx126, zx127, zx128, zx129, zx130, zx131, zx132, zx133, zx134, zx135, zx136, zx137, zx138, zx139, zx140, zx141, zx142, zx143, zx144, zx145, zg2, zg17, zg32, zgo3, zgo18, zgo33, zl47, zlo, zlp, zlx, zs90, zso, zsp, zsx, zt99, zto, ztp1, ztp2, ztgo, ztso, ztsp, ztsx, zc0, zi0, zc1, zi1, zc2, zi2, zc3, zi3, zc4, zi4, zc5, zi5, zin, zcl, nI_1, Bool.and_self, Bool.true_and, Bool.and_true, e1, zle, nI24, ec]
        rfl
      · rw [decide_eq_true h1, decide_eq_false h2]
        simp (disch := omega) only [fxX10_isTold, am_gd_t, am_lt_e, am_bd_s, bi_0, bi_bz, bz0, bz1, nz2, nz10, nz100, hp_gi, hp_si, ↓reduceIte, if_true, if_false, Bool.true_eq_false, Bool.false_eq_true, eq_self, reduceCtorEq, zo0, zp0_0, zp0_1, zp0_2, zp0_4, zp0_5, zp0_6, zp0_7, zp0_8, zp0_9, zp0_10, zo1, zp1_0, zp1_5, zp1_6, zp1_9, zo16, zp16_0, zp16_5, zp16_6, zp16_9, zo31, zp31_0, zp31_5, zp31_6, zp31_9, zo46, zp46_0, zp46_1, zp46_2, zo79, zp79_0, zo83, zp83_0, zp83_1, zp83_2, zo87, zp87_0, zp87_1, zo121, zp121_0, zp121_1, zp121_2, zp121_4, zp121_5, zp121_6, zp121_7, zp121_8, zp121_16, zp121_17, zp121_18, zp121_21, zp121_23, zp121_24, zp121_25, zp121_26, zp121_27, zp121_28, zp121_29, zp121_30, zp121_31, zp121_32, zp121_33, zp121_34, zp79_2, zx2, zx13, zx14, zx15, zx17, zx28, zx29, zx30, zx32, zx43, zx44, zx45, zx47, zx78, zx80, zx84, zx85, zx86, zx88, zx89, zx90, zx99, zx120, zx122, zx123, zx124, zx125, zx126, zx127, zx128, zx129, zx130, zx131, zx132, zx133, zx134, zx135, zx136, zx137, zx138, zx139, zx140, zx141, zx142, zx143, zx144, zx145, zg2, zg17, zg32, zgo3, zgo18, zgo33, zl47, zlo, zlp, zlx, zs90, zso, zsp, zsx, zt99, zto, ztp1, ztp2, ztgo, ztso, ztsp, ztsx, zc0, zi0, zc1, zi1, zc2, zi2, zc3, zi3, zc4, zi4, zc5, zi5, zin, zcl, nI_1, Bool.and_self, Bool.true_and, Bool.and_true, e1, zle, nI24, ec, h2]
        rfl
    · rw [decide_eq_false h1]
      simp (disch := omega) only [fxX10_isTold, am_gd_t, am_lt_e, am_bd_s, bi_0, bi_bz, bz0, bz1, nz2, nz10, nz100, hp_gi, hp_si, ↓reduceIte, if_true, if_false, Bool.true_eq_false, Bool.false_eq_true, eq_self, reduceCtorEq, zo0, zp0_0, zp0_1, zp0_2, zp0_4, zp0_5, zp0_6, zp0_7, zp0_8, zp0_9, zp0_10, zo1, zp1_0, zp1_5, zp1_6, zp1_9, zo16, zp16_0, zp16_5, zp16_6, zp16_9, zo31, zp31_0, zp31_5, zp31_6, zp31_9, zo46, zp46_0, zp46_1, zp46_2, zo79, zp79_0, zo83, zp83_0, zp83_1, zp83_2, zo87, zp87_0, zp87_1, zo121, zp121_0, zp121_1, zp121_2, zp121_4, zp121_5, zp121_6, zp121_7, zp121_8, zp121_16, zp121_17, zp121_18, zp121_21, zp121_23, zp121_24, zp121_25, zp121_26, zp121_27, zp121_28, zp121_29, zp121_30, zp121_31, zp121_32, zp121_33, zp121_34, zp79_2, zx2, zx13, zx14, zx15, zx17, zx28, zx29, zx30, zx32, zx43, zx44, zx45, zx47, zx78, zx80, zx84, zx85, zx86, zx88, zx89, zx90, zx99, zx120, zx122, zx123, zx124, zx125, zx126, zx127, zx128, zx129, zx130, zx131, zx132, zx133, zx134, zx135, zx136, zx137, zx138, zx139, zx140, zx141, zx142, zx143, zx144, zx145, zg2, zg17, zg32, zgo3, zgo18, zgo33, zl47, zlo, zlp, zlx, zs90, zso, zsp, zsx, zt99, zto, ztp1, ztp2, ztgo, ztso, ztsp, ztsx, zc0, zi0, zc1, zi1, zc2, zi2, zc3, zi3, zc4, zi4, zc5, zi5, zin, zcl, nI_1, Bool.and_self, Bool.true_and, Bool.and_true, e1, zle']
      rfl
  have ev := hV a b ha hb hab
  unfold arB
  rcases hVp a b with hv | ⟨v, hv1, hv⟩
  · rw [hv] at ev
    rw [hv]
    simp (disch := omega) only [fxX10_arePartners, am_gd_t, am_lt_e, am_bd_s, bi_0, bi_bz, bz0, bz1, nz2, nz10, nz100, hp_gi, hp_si, ↓reduceIte, if_true, if_false, Bool.true_eq_false, Bool.false_eq_true, eq_self, reduceCtorEq, zo0, zp0_0, zp0_1, zp0_2, zp0_4, zp0_5, zp0_6, zp0_7, zp0_8, zp0_9, zp0_10, zo1, zp1_0, zp1_5, zp1_6, zp1_9, zo16, zp16_0, zp16_5, zp16_6, zp16_9, zo31, zp31_0, zp31_5, zp31_6, zp31_9, zo46, zp46_0, zp46_1, zp46_2, zo79, zp79_0, zo83, zp83_0, zp83_1, zp83_2, zo87, zp87_0, zp87_1, zo121, zp121_0, zp121_1, zp121_2, zp121_4, zp121_5, zp121_6, zp121_7, zp121_8, zp121_16, zp121_17, zp121_18, zp121_21, zp121_23, zp121_24, zp121_25, zp121_26, zp121_27, zp121_28, zp121_29, zp121_30, zp121_31, zp121_32, zp121_33, zp121_34, zp79_2, zx2, zx13, zx14, zx15, zx17, zx28, zx29, zx30, zx32, zx43, zx44, zx45, zx47, zx78, zx80, zx84, zx85, zx86, zx88, zx89, zx90, zx99, zx120, zx122, zx123, zx124, zx125, zx126, zx127, zx128, zx129, zx130, zx131, zx132, zx133, zx134, zx135, zx136, zx137, zx138, zx139, zx140, zx141, zx142, zx143, zx144, zx145, zg2, zg17, zg32, zgo3, zgo18, zgo33, zl47, zlo, zlp, zlx, zs90, zso, zsp, zsx, zt99, zto, ztp1, ztp2, ztgo, ztso, ztsp, ztsx, zc0, zi0, zc1, zi1, zc2, zi2, zc3, zi3, zc4, zi4, zc5, zi5, zin, zcl, nI_1, Bool.and_self, Bool.true_and, Bool.and_true, ix10', ev, m1lt, decide_true, Bool.not_true, Bool.false_and]
    rfl
  · rw [hv] at ev
    rw [hv, decide_eq_false (nm1 (t := v) (by omega))]
    simp (disch := omega) only [fxX10_arePartners, am_gd_t, am_lt_e, am_bd_s, bi_0, bi_bz, bz0, bz1, nz2, nz10, nz100, hp_gi, hp_si, ↓reduceIte, if_true, if_false, Bool.true_eq_false, Bool.false_eq_true, eq_self, reduceCtorEq, zo0, zp0_0, zp0_1, zp0_2, zp0_4, zp0_5, zp0_6, zp0_7, zp0_8, zp0_9, zp0_10, zo1, zp1_0, zp1_5, zp1_6, zp1_9, zo16, zp16_0, zp16_5, zp16_6, zp16_9, zo31, zp31_0, zp31_5, zp31_6, zp31_9, zo46, zp46_0, zp46_1, zp46_2, zo79, zp79_0, zo83, zp83_0, zp83_1, zp83_2, zo87, zp87_0, zp87_1, zo121, zp121_0, zp121_1, zp121_2, zp121_4, zp121_5, zp121_6, zp121_7, zp121_8, zp121_16, zp121_17, zp121_18, zp121_21, zp121_23, zp121_24, zp121_25, zp121_26, zp121_27, zp121_28, zp121_29, zp121_30, zp121_31, zp121_32, zp121_33, zp121_34, zp79_2, zx2, zx13, zx14, zx15, zx17, zx28, zx29, zx30, zx32, zx43, zx44, zx45, zx47, zx78, zx80, zx84, zx85, zx86, zx88, zx89, zx90, zx99, zx120, zx122, zx123, zx124, zx125, zx126, zx127, zx128, zx129, zx130, zx131, zx132, zx133, zx134, zx135, zx136, zx137, zx138, zx139, zx140, zx141, zx142, zx143, zx144, zx145, zg2, zg17, zg32, zgo3, zgo18, zgo33, zl47, zlo, zlp, zlx, zs90, zso, zsp, zsx, zt99, zto, ztp1, ztp2, ztgo, ztso, ztsp, ztsx, zc0, zi0, zc1, zi1, zc2, zi2, zc3, zi3, zc4, zi4, zc5, zi5, zin, zcl, nI_1, Bool.and_self, Bool.true_and, Bool.and_true, ix10', ev, nlt0, ht a b ha hb, ht b a hb ha, Bool.not_false]
    cases (decide (a < sz) && decide (c a = nI b)) <;> cases (decide (b < sz) && decide (c b = nI a)) <;> rfl
theorem q_hasBy {lp s n sz g : Nat} {M : Mem} {V : Nat → Nat → Int32} {c : Nat → Int32} (hs : s < 4) (hn : n ≤ 10) (hg : g < n) (e0 : M 122 1 = nI n) (hsz : sz ≤ 24) (e1 : M 138 s = nI sz) (hc : ∀ k, k < 24 → M 139 (24 * s + k) = c k) (hV : ∀ a b, a < n → b < n → a ≠ b → M 125 (10 * a + b) = V a b) (hVp : ∀ a b, V a b = -1 ∨ ∃ v, v ≤ 999 ∧ V a b = nI v) : fxX10_hasBy (some 121) (nI s) (nI g) (hp lp M) = some (hbS V c sz g n 0, hp lp M) := by
  have L : ∀ k i fuel, i + k = n → k < fuel → fxX10_hasBy_b2 fuel (some 121) (nI s) (nI g) (nI i) (hp lp M) = some (hbS V c sz g k i, hp lp M) := by
    intro k
    induction k with
    | zero =>
      intro i fuel hi hf
      obtain ⟨fuel, rfl⟩ : ∃ f, fuel = f + 1 := ⟨fuel - 1, by omega⟩
      obtain rfl : i = n := by omega
      simp (disch := omega) only [fxX10_hasBy_b2, am_gd_t, am_lt_e, am_bd_s, bi_0, bi_bz, bz0, bz1, nz2, nz10, nz100, hp_gi, hp_si, ↓reduceIte, if_true, if_false, Bool.true_eq_false, Bool.false_eq_true, eq_self, reduceCtorEq, zo0, zp0_0, zp0_1, zp0_2, zp0_4, zp0_5, zp0_6, zp0_7, zp0_8, zp0_9, zp0_10, zo1, zp1_0, zp1_5, zp1_6, zp1_9, zo16, zp16_0, zp16_5, zp16_6, zp16_9, zo31, zp31_0, zp31_5, zp31_6, zp31_9, zo46, zp46_0, zp46_1, zp46_2, zo79, zp79_0, zo83, zp83_0, zp83_1, zp83_2, zo87, zp87_0, zp87_1, zo121, zp121_0, zp121_1, zp121_2, zp121_4, zp121_5, zp121_6, zp121_7, zp121_8, zp121_16, zp121_17, zp121_18, zp121_21, zp121_23, zp121_24, zp121_25, zp121_26, zp121_27, zp121_28, zp121_29, zp121_30, zp121_31, zp121_32, zp121_33, zp121_34, zp79_2, zx2, zx13, zx14, zx15, zx17, zx28, zx29, zx30, zx32, zx43, zx44, zx45, zx47, zx78, zx80, zx84, zx85, zx86, zx88, zx89, zx90, zx99, zx120, zx122, zx123, zx124, zx125, zx126, zx127, zx128, zx129, zx130, zx131, zx132, zx133, zx134, zx135, zx136, zx137, zx138, zx139, zx140, zx141, zx142, zx143, zx144, zx145, zg2, zg17, zg32, zgo3, zgo18, zgo33, zl47, zlo, zlp, zlx, zs90, zso, zsp, zsx, zt99, zto, ztp1, ztp2, ztgo, ztso, ztsp, ztsx, zc0, zi0, zc1, zi1, zc2, zi2, zc3, zi3, zc4, zi4, zc5, zi5, e0, zle', hbS]
    | succ k ih =>
      intro i fuel hi hf
      obtain ⟨fuel, rfl⟩ : ∃ f, fuel = f + 1 := ⟨fuel - 1, by omega⟩
      have hI := ih (i + 1) fuel (by omega) (by omega)
      unfold hbS
      by_cases q : i = g
      · subst q
        rw [if_neg (fun x => x.1 rfl), ← hI]
        simp (disch := omega) only [fxX10_hasBy_b2, fxX10_hasBy_b39, am_gd_t, am_lt_e, am_bd_s, bi_0, bi_bz, bz0, bz1, nz2, nz10, nz100, hp_gi, hp_si, ↓reduceIte, if_true, if_false, Bool.true_eq_false, Bool.false_eq_true, eq_self, reduceCtorEq, zo0, zp0_0, zp0_1, zp0_2, zp0_4, zp0_5, zp0_6, zp0_7, zp0_8, zp0_9, zp0_10, zo1, zp1_0, zp1_5, zp1_6, zp1_9, zo16, zp16_0, zp16_5, zp16_6, zp16_9, zo31, zp31_0, zp31_5, zp31_6, zp31_9, zo46, zp46_0, zp46_1, zp46_2, zo79, zp79_0, zo83, zp83_0, zp83_1, zp83_2, zo87, zp87_0, zp87_1, zo121, zp121_0, zp121_1, zp121_2, zp121_4, zp121_5, zp121_6, zp121_7, zp121_8, zp121_16, zp121_17, zp121_18, zp121_21, zp121_23, zp121_24, zp121_25, zp121_26, zp121_27, zp121_28, zp121_29, zp121_30, zp121_31, zp121_32, zp121_33, zp121_34, zp79_2, zx2, zx13, zx14, zx15, zx17, zx28, zx29, zx30, zx32, zx43, zx44, zx45, zx47, zx78, zx80, zx84, zx85, zx86, zx88, zx89, zx90, zx99, zx120, zx122, zx123, zx124, zx125, zx126, zx127, zx128, zx129, zx130, zx131, zx132, zx133, zx134, zx135, zx136, zx137, zx138, zx139, zx140, zx141, zx142, zx143, zx144, zx145, zg2, zg17, zg32, zgo3, zgo18, zgo33, zl47, zlo, zlp, zlx, zs90, zso, zsp, zsx, zt99, zto, ztp1, ztp2, ztgo, ztso, ztsp, ztsx, zc0, zi0, zc1, zi1, zc2, zi2, zc3, zi3, zc4, zi4, zc5, zi5, e0, zle, nI_1]
      · have hne : (nI i = nI g) = False := zne q (by omega) (by omega)
        have hap := q_arePart (lp := lp) hs hn hg (show i < n by omega) (Ne.symm q) hsz e1 hc hV hVp
        have ev := hV g i hg (by omega) (Ne.symm q)
        cases hb : arB V c sz g i with
        | false =>
          rw [if_neg (by simp), ← hI]
          rw [hb] at hap
          simp (disch := omega) only [fxX10_hasBy_b2, fxX10_hasBy_b39, am_gd_t, am_lt_e, am_bd_s, bi_0, bi_bz, bz0, bz1, nz2, nz10, nz100, hp_gi, hp_si, ↓reduceIte, if_true, if_false, Bool.true_eq_false, Bool.false_eq_true, eq_self, reduceCtorEq, zo0, zp0_0, zp0_1, zp0_2, zp0_4, zp0_5, zp0_6, zp0_7, zp0_8, zp0_9, zp0_10, zo1, zp1_0, zp1_5, zp1_6, zp1_9, zo16, zp16_0, zp16_5, zp16_6, zp16_9, zo31, zp31_0, zp31_5, zp31_6, zp31_9, zo46, zp46_0, zp46_1, zp46_2, zo79, zp79_0, zo83, zp83_0, zp83_1, zp83_2, zo87, zp87_0, zp87_1, zo121, zp121_0, zp121_1, zp121_2, zp121_4, zp121_5, zp121_6, zp121_7, zp121_8, zp121_16, zp121_17, zp121_18, zp121_21, zp121_23, zp121_24, zp121_25, zp121_26, zp121_27, zp121_28, zp121_29, zp121_30, zp121_31, zp121_32, zp121_33, zp121_34, zp79_2, zx2, zx13, zx14, zx15, zx17, zx28, zx29, zx30, zx32, zx43, zx44, zx45, zx47, zx78, zx80, zx84, zx85, zx86, zx88, zx89, zx90, zx99, zx120, zx122, zx123, zx124, zx125, zx126, zx127, zx128, zx129, zx130, zx131, zx132, zx133, zx134, zx135, zx136, zx137, zx138, zx139, zx140, zx141, zx142, zx143, zx144, zx145, zg2, zg17, zg32, zgo3, zgo18, zgo33, zl47, zlo, zlp, zlx, zs90, zso, zsp, zsx, zt99, zto, ztp1, ztp2, ztgo, ztso, ztsp, ztsx, zc0, zi0, zc1, zi1, zc2, zi2, zc3, zi3, zc4, zi4, zc5, zi5, e0, zle, hne, hap, nI_1]
        | true =>
          rw [if_pos ⟨q, rfl⟩]
          rw [hb] at hap
          simp (disch := omega) only [fxX10_hasBy_b2, am_gd_t, am_lt_e, am_bd_s, bi_0, bi_bz, bz0, bz1, nz2, nz10, nz100, hp_gi, hp_si, ↓reduceIte, if_true, if_false, Bool.true_eq_false, Bool.false_eq_true, eq_self, reduceCtorEq, zo0, zp0_0, zp0_1, zp0_2, zp0_4, zp0_5, zp0_6, zp0_7, zp0_8, zp0_9, zp0_10, zo1, zp1_0, zp1_5, zp1_6, zp1_9, zo16, zp16_0, zp16_5, zp16_6, zp16_9, zo31, zp31_0, zp31_5, zp31_6, zp31_9, zo46, zp46_0, zp46_1, zp46_2, zo79, zp79_0, zo83, zp83_0, zp83_1, zp83_2, zo87, zp87_0, zp87_1, zo121, zp121_0, zp121_1, zp121_2, zp121_4, zp121_5, zp121_6, zp121_7, zp121_8, zp121_16, zp121_17, zp121_18, zp121_21, zp121_23, zp121_24, zp121_25, zp121_26, zp121_27, zp121_28, zp121_29, zp121_30, zp121_31, zp121_32, zp121_33, zp121_34, zp79_2, zx2, zx13, zx14, zx15, zx17, zx28, zx29, zx30, zx32, zx43, zx44, zx45, zx47, zx78, zx80, zx84, zx85, zx86, zx88, zx89, zx90, zx99, zx120, zx122, zx123, zx124, zx125, zx126, zx127, zx128, zx129, zx130, zx131, zx132, zx133, zx134, zx135, zx136, zx137, zx138, zx139, zx140, zx141, zx142, zx143, zx144, zx145, zg2, zg17, zg32, zgo3, zgo18, zgo33, zl47, zlo, zlp, zlx, zs90, zso, zsp, zsx, zt99, zto, ztp1, ztp2, ztgo, ztso, ztsp, ztsx, zc0, zi0, zc1, zi1, zc2, zi2, zc3, zi3, zc4, zi4, zc5, zi5, zin, zcl, nI_1, Bool.and_self, Bool.true_and, Bool.and_true, e0, zle, hne, hap, ix10', ev]
  have := L n 0 am_F (by omega) (by unfold am_F; omega)
  simp only [fxX10_hasBy, am_gd_t, am_lt_e, am_bd_s, bi_0, bi_bz, bz0, bz1, nz2, nz10, nz100, hp_gi, hp_si]
  exact this
theorem lvm_in {lp s n sz i : Nat} {M : Mem} {V : Nat → Nat → Int32} {c : Nat → Int32} (hs : s < 4) (hn : n ≤ 10) (hi : i < n) (e0 : M 122 1 = nI n) (hsz : sz ≤ 24) (e1 : M 138 s = nI sz) (hc : ∀ k, k < 24 → M 139 (24 * s + k) = c k) (hV : ∀ a b, a < n → b < n → a ≠ b → M 125 (10 * a + b) = V a b) (hVp : ∀ a b, V a b = -1 ∨ ∃ v, v ≤ 999 ∧ V a b = nI v) (k28 : Option Nat → Int32 → Int32 → am_H → Option (Int32 × am_H)) : ∀ k j fuel, j + k = n → i < j → k < fuel → fxX10_leaves_b42 k28 fuel (some 121) (nI s) (nI i) (nI j) (hp lp M) = (match lvI V c sz n i k j with | some v => some (nI v, hp lp M) | none => k28 (some 121) (nI s) (nI (i + 1)) (hp lp M)) := by
  intro k
  induction k with
  | zero =>
    intro j fuel hj hij hf
    obtain ⟨fuel, rfl⟩ : ∃ f, fuel = f + 1 := ⟨fuel - 1, by omega⟩
    obtain rfl : j = n := by omega
    simp (disch := omega) only [fxX10_leaves_b42, am_gd_t, am_lt_e, am_bd_s, bi_0, bi_bz, bz0, bz1, nz2, nz10, nz100, hp_gi, hp_si, ↓reduceIte, if_true, if_false, Bool.true_eq_false, Bool.false_eq_true, eq_self, reduceCtorEq, zo0, zp0_0, zp0_1, zp0_2, zp0_4, zp0_5, zp0_6, zp0_7, zp0_8, zp0_9, zp0_10, zo1, zp1_0, zp1_5, zp1_6, zp1_9, zo16, zp16_0, zp16_5, zp16_6, zp16_9, zo31, zp31_0, zp31_5, zp31_6, zp31_9, zo46, zp46_0, zp46_1, zp46_2, zo79, zp79_0, zo83, zp83_0, zp83_1, zp83_2, zo87, zp87_0, zp87_1, zo121, zp121_0, zp121_1, zp121_2, zp121_4, zp121_5, zp121_6, zp121_7, zp121_8, zp121_16, zp121_17, zp121_18, zp121_21, zp121_23, zp121_24, zp121_25, zp121_26, zp121_27, zp121_28, zp121_29, zp121_30, zp121_31, zp121_32, zp121_33, zp121_34, zp79_2, zx2, zx13, zx14, zx15, zx17, zx28, zx29, zx30, zx32, zx43, zx44, zx45, zx47, zx78, zx80, zx84, zx85, zx86, zx88, zx89, zx90, zx99, zx120, zx122, zx123, zx124, zx125, zx126, zx127, zx128, zx129, zx130, zx131, zx132, zx133, zx134, zx135, zx136, zx137, zx138, zx139, zx140, zx141, zx142, zx143, zx144, zx145, zg2, zg17, zg32, zgo3, zgo18, zgo33, zl47, zlo, zlp, zlx, zs90, zso, zsp, zsx, zt99, zto, ztp1, ztp2, ztgo, ztso, ztsp, ztsx, zc0, zi0, zc1, zi1, zc2, zi2, zc3, zi3, zc4, zi4, zc5, zi5, e0, zle', nI_1, lvI]
  | succ k ih =>
    intro j fuel hj hij hf
    obtain ⟨fuel, rfl⟩ : ∃ f, fuel = f + 1 := ⟨fuel - 1, by omega⟩
    have hI := ih (j + 1) fuel (by omega) (by omega) (by omega)
    have ev := hV i j hi (by omega) (by omega)
    have s1 := q_hasBy (lp := lp) hs hn hi e0 hsz e1 hc hV hVp
    have s2 := q_hasBy (lp := lp) hs hn (show j < n by omega) e0 hsz e1 hc hV hVp
    have hap := q_arePart (lp := lp) hs hn hi (show j < n by omega) (by omega) hsz e1 hc hV hVp
    unfold lvI
    by_cases c2 : V i j ≤ hbS V c sz i n 0
    · rw [if_pos (Or.inr (Or.inl c2)), ← hI]
      simp (disch := omega) only [fxX10_leaves_b42, fxX10_leaves_b104, am_gd_t, am_lt_e, am_bd_s, bi_0, bi_bz, bz0, bz1, nz2, nz10, nz100, hp_gi, hp_si, ↓reduceIte, if_true, if_false, Bool.true_eq_false, Bool.false_eq_true, eq_self, reduceCtorEq, zo0, zp0_0, zp0_1, zp0_2, zp0_4, zp0_5, zp0_6, zp0_7, zp0_8, zp0_9, zp0_10, zo1, zp1_0, zp1_5, zp1_6, zp1_9, zo16, zp16_0, zp16_5, zp16_6, zp16_9, zo31, zp31_0, zp31_5, zp31_6, zp31_9, zo46, zp46_0, zp46_1, zp46_2, zo79, zp79_0, zo83, zp83_0, zp83_1, zp83_2, zo87, zp87_0, zp87_1, zo121, zp121_0, zp121_1, zp121_2, zp121_4, zp121_5, zp121_6, zp121_7, zp121_8, zp121_16, zp121_17, zp121_18, zp121_21, zp121_23, zp121_24, zp121_25, zp121_26, zp121_27, zp121_28, zp121_29, zp121_30, zp121_31, zp121_32, zp121_33, zp121_34, zp79_2, zx2, zx13, zx14, zx15, zx17, zx28, zx29, zx30, zx32, zx43, zx44, zx45, zx47, zx78, zx80, zx84, zx85, zx86, zx88, zx89, zx90, zx99, zx120, zx122, zx123, zx124, zx125, zx126, zx127, zx128, zx129, zx130, zx131, zx132, zx133, zx134, zx135, zx136, zx137, zx138, zx139, zx140, zx141, zx142, zx143, zx144, zx145, zg2, zg17, zg32, zgo3, zgo18, zgo33, zl47, zlo, zlp, zlx, zs90, zso, zsp, zsx, zt99, zto, ztp1, ztp2, ztgo, ztso, ztsp, ztsx, zc0, zi0, zc1, zi1, zc2, zi2, zc3, zi3, zc4, zi4, zc5, zi5, zin, zcl, nI_1, Bool.and_self, Bool.true_and, Bool.and_true, e0, zle, ix10', s1, ev, c2]
    · by_cases c3 : V i j ≤ hbS V c sz j n 0
      · rw [if_pos (Or.inr (Or.inr c3)), ← hI]
        simp (disch := omega) only [fxX10_leaves_b42, fxX10_leaves_b104, am_gd_t, am_lt_e, am_bd_s, bi_0, bi_bz, bz0, bz1, nz2, nz10, nz100, hp_gi, hp_si, ↓reduceIte, if_true, if_false, Bool.true_eq_false, Bool.false_eq_true, eq_self, reduceCtorEq, zo0, zp0_0, zp0_1, zp0_2, zp0_4, zp0_5, zp0_6, zp0_7, zp0_8, zp0_9, zp0_10, zo1, zp1_0, zp1_5, zp1_6, zp1_9, zo16, zp16_0, zp16_5, zp16_6, zp16_9, zo31, zp31_0, zp31_5, zp31_6, zp31_9, zo46, zp46_0, zp46_1, zp46_2, zo79, zp79_0, zo83, zp83_0, zp83_1, zp83_2, zo87, zp87_0, zp87_1, zo121, zp121_0, zp121_1, zp121_2, zp121_4, zp121_5, zp121_6, zp121_7, zp121_8, zp121_16, zp121_17, zp121_18, zp121_21, zp121_23, zp121_24, zp121_25, zp121_26, zp121_27, zp121_28, zp121_29, zp121_30, zp121_31, zp121_32, zp121_33, zp121_34, zp79_2, zx2, zx13, zx14, zx15, zx17, zx28, zx29, zx30, zx32, zx43, zx44, zx45, zx47, zx78, zx80, zx84, zx85, zx86, zx88, zx89, zx90, zx99, zx120, zx122, zx123, zx124, zx125, zx126, zx127, zx128, zx129, zx130, zx131, zx132, zx133, zx134, zx135, zx136, zx137, zx138, zx139, zx140, zx141, zx142, zx143, zx144, zx145, zg2, zg17, zg32, zgo3, zgo18, zgo33, zl47, zlo, zlp, zlx, zs90, zso, zsp, zsx, zt99, zto, ztp1, ztp2, ztgo, ztso, ztsp, ztsx, zc0, zi0, zc1, zi1, zc2, zi2, zc3, zi3, zc4, zi4, zc5, zi5, zin, zcl, nI_1, Bool.and_self, Bool.true_and, Bool.and_true, e0, zle, ix10', s1, s2, ev, c2, c3]
      · cases c1 : arB V c sz i j with
        | true =>
          rw [if_pos (Or.inl rfl), ← hI]
          rw [c1] at hap
          simp (disch := omega) only [fxX10_leaves_b42, fxX10_leaves_b104, am_gd_t, am_lt_e, am_bd_s, bi_0, bi_bz, bz0, bz1, nz2, nz10, nz100, hp_gi, hp_si, ↓reduceIte, if_true, if_false, Bool.true_eq_false, Bool.false_eq_true, eq_self, reduceCtorEq, zo0, zp0_0, zp0_1, zp0_2, zp0_4, zp0_5, zp0_6, zp0_7, zp0_8, zp0_9, zp0_10, zo1, zp1_0, zp1_5, zp1_6, zp1_9, zo16, zp16_0, zp16_5, zp16_6, zp16_9, zo31, zp31_0, zp31_5, zp31_6, zp31_9, zo46, zp46_0, zp46_1, zp46_2, zo79, zp79_0, zo83, zp83_0, zp83_1, zp83_2, zo87, zp87_0, zp87_1, zo121, zp121_0, zp121_1, zp121_2, zp121_4, zp121_5, zp121_6, zp121_7, zp121_8, zp121_16, zp121_17, zp121_18, zp121_21, zp121_23, zp121_24, zp121_25, zp121_26, zp121_27, zp121_28, zp121_29, zp121_30, zp121_31, zp121_32, zp121_33, zp121_34, zp79_2, zx2, zx13, zx14, zx15, zx17, zx28, zx29, zx30, zx32, zx43, zx44, zx45, zx47, zx78, zx80, zx84, zx85, zx86, zx88, zx89, zx90, zx99, zx120, zx122, zx123, zx124, zx125, zx126, zx127, zx128, zx129, zx130, zx131, zx132, zx133, zx134, zx135, zx136, zx137, zx138, zx139, zx140, zx141, zx142, zx143, zx144, zx145, zg2, zg17, zg32, zgo3, zgo18, zgo33, zl47, zlo, zlp, zlx, zs90, zso, zsp, zsx, zt99, zto, ztp1, ztp2, ztgo, ztso, ztsp, ztsx, zc0, zi0, zc1, zi1, zc2, zi2, zc3, zi3, zc4, zi4, zc5, zi5, zin, zcl, nI_1, Bool.and_self, Bool.true_and, Bool.and_true, e0, zle, ix10', s1, s2, ev, c2, c3, hap]
        | false =>
          rw [if_neg (by rintro (q | q | q) <;> contradiction)]
          rw [c1] at hap
          simp (disch := omega) only [fxX10_leaves_b42, fxX10_leaves_b104, am_gd_t, am_lt_e, am_bd_s, bi_0, bi_bz, bz0, bz1, nz2, nz10, nz100, hp_gi, hp_si, ↓reduceIte, if_true, if_false, Bool.true_eq_false, Bool.false_eq_true, eq_self, reduceCtorEq, zo0, zp0_0, zp0_1, zp0_2, zp0_4, zp0_5, zp0_6, zp0_7, zp0_8, zp0_9, zp0_10, zo1, zp1_0, zp1_5, zp1_6, zp1_9, zo16, zp16_0, zp16_5, zp16_6, zp16_9, zo31, zp31_0, zp31_5, zp31_6, zp31_9, zo46, zp46_0, zp46_1, zp46_2, zo79, zp79_0, zo83, zp83_0, zp83_1, zp83_2, zo87, zp87_0, zp87_1, zo121, zp121_0, zp121_1, zp121_2, zp121_4, zp121_5, zp121_6, zp121_7, zp121_8, zp121_16, zp121_17, zp121_18, zp121_21, zp121_23, zp121_24, zp121_25, zp121_26, zp121_27, zp121_28, zp121_29, zp121_30, zp121_31, zp121_32, zp121_33, zp121_34, zp79_2, zx2, zx13, zx14, zx15, zx17, zx28, zx29, zx30, zx32, zx43, zx44, zx45, zx47, zx78, zx80, zx84, zx85, zx86, zx88, zx89, zx90, zx99, zx120, zx122, zx123, zx124, zx125, zx126, zx127, zx128, zx129, zx130, zx131, zx132, zx133, zx134, zx135, zx136, zx137, zx138, zx139, zx140, zx141, zx142, zx143, zx144, zx145, zg2, zg17, zg32, zgo3, zgo18, zgo33, zl47, zlo, zlp, zlx, zs90, zso, zsp, zsx, zt99, zto, ztp1, ztp2, ztgo, ztso, ztsp, ztsx, zc0, zi0, zc1, zi1, zc2, zi2, zc3, zi3, zc4, zi4, zc5, zi5, zin, zcl, nI_1, Bool.and_self, Bool.true_and, Bool.and_true, e0, zle, ix10', s1, s2, ev, c2, c3, hap, ix100]
theorem q_mLeave {lp s n sz : Nat} {M : Mem} {V : Nat → Nat → Int32} {c : Nat → Int32} (hs : s < 4) (hn : n ≤ 10) (e0 : M 122 1 = nI n) (hsz : sz ≤ 24) (e1 : M 138 s = nI sz) (hc : ∀ k, k < 24 → M 139 (24 * s + k) = c k) (hV : ∀ a b, a < n → b < n → a ≠ b → M 125 (10 * a + b) = V a b) (hVp : ∀ a b, V a b = -1 ∨ ∃ v, v ≤ 999 ∧ V a b = nI v) : fxX10_leaves_b28 am_F (some 121) (nI s) (nI 0) (hp lp M) = some (lvO V c sz n n 0, hp lp M) := by
  have L : ∀ k i fuel, i + k = n → k < fuel → fxX10_leaves_b28 fuel (some 121) (nI s) (nI i) (hp lp M) = some (lvO V c sz n k i, hp lp M) := by
    intro k
    induction k with
    | zero =>
      intro i fuel hi hf
      obtain ⟨fuel, rfl⟩ : ∃ f, fuel = f + 1 := ⟨fuel - 1, by omega⟩
      obtain rfl : i = n := by omega
      simp (disch := omega) only [fxX10_leaves_b28, am_gd_t, am_lt_e, am_bd_s, bi_0, bi_bz, bz0, bz1, nz2, nz10, nz100, hp_gi, hp_si, ↓reduceIte, if_true, if_false, Bool.true_eq_false, Bool.false_eq_true, eq_self, reduceCtorEq, zo0, zp0_0, zp0_1, zp0_2, zp0_4, zp0_5, zp0_6, zp0_7, zp0_8, zp0_9, zp0_10, zo1, zp1_0, zp1_5, zp1_6, zp1_9, zo16, zp16_0, zp16_5, zp16_6, zp16_9, zo31, zp31_0, zp31_5, zp31_6, zp31_9, zo46, zp46_0, zp46_1, zp46_2, zo79, zp79_0, zo83, zp83_0, zp83_1, zp83_2, zo87, zp87_0, zp87_1, zo121, zp121_0, zp121_1, zp121_2, zp121_4, zp121_5, zp121_6, zp121_7, zp121_8, zp121_16, zp121_17, zp121_18, zp121_21, zp121_23, zp121_24, zp121_25, zp121_26, zp121_27, zp121_28, zp121_29, zp121_30, zp121_31, zp121_32, zp121_33, zp121_34, zp79_2, zx2, zx13, zx14, zx15, zx17, zx28, zx29, zx30, zx32, zx43, zx44, zx45, zx47, zx78, zx80, zx84, zx85, zx86, zx88, zx89, zx90, zx99, zx120, zx122, zx123, zx124, zx125, zx126, zx127, zx128, zx129, zx130, zx131, zx132, zx133, zx134, zx135, zx136, zx137, zx138, zx139, zx140, zx141, zx142, zx143, zx144, zx145, zg2, zg17, zg32, zgo3, zgo18, zgo33, zl47, zlo, zlp, zlx, zs90, zso, zsp, zsx, zt99, zto, ztp1, ztp2, ztgo, ztso, ztsp, ztsx, zc0, zi0, zc1, zi1, zc2, zi2, zc3, zi3, zc4, zi4, zc5, zi5, e0, zle', lvO]
    | succ k ih =>
      intro i fuel hi hf
      obtain ⟨fuel, rfl⟩ : ∃ f, fuel = f + 1 := ⟨fuel - 1, by omega⟩
      have hI := ih (i + 1) fuel (by omega) (by omega)
      have hin := lvm_in (lp := lp) hs hn (show i < n by omega) e0 hsz e1 hc hV hVp (fxX10_leaves_b28 fuel) (n - (i + 1)) (i + 1) am_F (by omega) (by omega) (by unfold am_F; omega)
      simp (disch := omega) only [fxX10_leaves_b28, am_gd_t, am_lt_e, am_bd_s, bi_0, bi_bz, bz0, bz1, nz2, nz10, nz100, hp_gi, hp_si, ↓reduceIte, if_true, if_false, Bool.true_eq_false, Bool.false_eq_true, eq_self, reduceCtorEq, zo0, zp0_0, zp0_1, zp0_2, zp0_4, zp0_5, zp0_6, zp0_7, zp0_8, zp0_9, zp0_10, zo1, zp1_0, zp1_5, zp1_6, zp1_9, zo16, zp16_0, zp16_5, zp16_6, zp16_9, zo31, zp31_0, zp31_5, zp31_6, zp31_9, zo46, zp46_0, zp46_1, zp46_2, zo79, zp79_0, zo83, zp83_0, zp83_1, zp83_2, zo87, zp87_0, zp87_1, zo121, zp121_0, zp121_1, zp121_2, zp121_4, zp121_5, zp121_6, zp121_7, zp121_8, zp121_16, zp121_17, zp121_18, zp121_21, zp121_23, zp121_24, zp121_25, zp121_26, zp121_27, zp121_28, zp121_29, zp121_30, zp121_31, zp121_32, zp121_33, zp121_34, zp79_2, zx2, zx13, zx14, zx15, zx17, zx28, zx29, zx30, zx32, zx43, zx44, zx45, zx47, zx78, zx80, zx84, zx85, zx86, zx88, zx89, zx90, zx99, zx120, zx122, zx123, zx124, zx125, zx126, zx127, zx128, zx129, zx130, zx131, zx132, zx133, zx134, zx135, zx136, zx137, zx138, zx139, zx140, zx141, zx142, zx143, zx144, zx145, zg2, zg17, zg32, zgo3, zgo18, zgo33, zl47, zlo, zlp, zlx, zs90, zso, zsp, zsx, zt99, zto, ztp1, ztp2, ztgo, ztso, ztsp, ztsx, zc0, zi0, zc1, zi1, zc2, zi2, zc3, zi3, zc4, zi4, zc5, zi5, e0, zle, nI_1, hin]
      unfold lvO
      cases lvI V c sz n i (n - (i + 1)) (i + 1) with
      | none => exact hI
      | some v => rfl
  exact L n 0 am_F (by omega) (by unfold am_F; omega)
theorem P_leaves (a : Int32) : Pair (fxX9_leaves (some 0) a) (fxX10_leaves (some 121) a) := by
  intro lp M hI
  rcases sh_cases a with ha | ⟨ha, s, hs, rfl⟩
  · exact ⟨-1000000001, lp, M, M, by simp only [fxX9_leaves, am_gd_t, am_lt_e, am_bd_s, bi_0, bi_bz, bz0, bz1, nz2, nz10, nz100, hp_gi, hp_si, ↓reduceIte, if_true, if_false, Bool.true_eq_false, Bool.false_eq_true, eq_self, reduceCtorEq, q_within, ha], by simp only [fxX10_leaves, am_gd_t, am_lt_e, am_bd_s, bi_0, bi_bz, bz0, bz1, nz2, nz10, nz100, hp_gi, hp_si, ↓reduceIte, if_true, if_false, Bool.true_eq_false, Bool.false_eq_true, eq_self, reduceCtorEq, q_misSheet, ha], hI⟩
  obtain ⟨sz, h1, h2, h3, h4, h5, h6, h7⟩ := hI.2.2.2.2.1.at hs
  have ho := zso (lp := lp) (M := M) hs
  by_cases hm : M 137 s = -1
  · refine ⟨-1000000011, lp, M, M, ?_, ?_, hI⟩
    · simp (disch := omega) only [fxX9_leaves, am_gd_t, am_lt_e, am_bd_s, bi_0, bi_bz, bz0, bz1, nz2, nz10, nz100, hp_gi, hp_si, ↓reduceIte, if_true, if_false, Bool.true_eq_false, Bool.false_eq_true, eq_self, reduceCtorEq, zo0, zp0_0, zp0_1, zp0_2, zp0_4, zp0_5, zp0_6, zp0_7, zp0_8, zp0_9, zp0_10, zo1, zp1_0, zp1_5, zp1_6, zp1_9, zo16, zp16_0, zp16_5, zp16_6, zp16_9, zo31, zp31_0, zp31_5, zp31_6, zp31_9, zo46, zp46_0, zp46_1, zp46_2, zo79, zp79_0, zo83, zp83_0, zp83_1, zp83_2, zo87, zp87_0, zp87_1, zo121, zp121_0, zp121_1, zp121_2, zp121_4, zp121_5, zp121_6, zp121_7, zp121_8, zp121_16, zp121_17, zp121_18, zp121_21, zp121_23, zp121_24, zp121_25, zp121_26, zp121_27, zp121_28, zp121_29, zp121_30, zp121_31, zp121_32, zp121_33, zp121_34, zp79_2, zx2, zx13, zx14, zx15, zx17, zx28, zx29, zx30, zx32, zx43, zx44, zx45, zx47, zx78, zx80, zx84, zx85, zx86, zx88, zx89, zx90, zx99, zx120, zx122, zx123, zx124, zx125, zx126, zx127, zx128, zx129, zx130, zx131, zx132, zx133, zx134, zx135, zx136, zx137, zx138, zx139, zx140, zx141, zx142, zx143, zx144, zx145, zg2, zg17, zg32, zgo3, zgo18, zgo33, zl47, zlo, zlp, zlx, zs90, zso, zsp, zsx, zt99, zto, ztp1, ztp2, ztgo, ztso, ztsp, ztsx, zc0, zi0, zc1, zi1, zc2, zi2, zc3, zi3, zc4, zi4, zc5, zi5, zin, zcl, nI_1, Bool.and_self, Bool.true_and, Bool.and_true, q_within, ha, q_isMissing ho, h4, hm, decide_true]
    · simp (disch := omega) only [fxX10_leaves, am_gd_t, am_lt_e, am_bd_s, bi_0, bi_bz, bz0, bz1, nz2, nz10, nz100, hp_gi, hp_si, ↓reduceIte, if_true, if_false, Bool.true_eq_false, Bool.false_eq_true, eq_self, reduceCtorEq, zo0, zp0_0, zp0_1, zp0_2, zp0_4, zp0_5, zp0_6, zp0_7, zp0_8, zp0_9, zp0_10, zo1, zp1_0, zp1_5, zp1_6, zp1_9, zo16, zp16_0, zp16_5, zp16_6, zp16_9, zo31, zp31_0, zp31_5, zp31_6, zp31_9, zo46, zp46_0, zp46_1, zp46_2, zo79, zp79_0, zo83, zp83_0, zp83_1, zp83_2, zo87, zp87_0, zp87_1, zo121, zp121_0, zp121_1, zp121_2, zp121_4, zp121_5, zp121_6, zp121_7, zp121_8, zp121_16, zp121_17, zp121_18, zp121_21, zp121_23, zp121_24, zp121_25, zp121_26, zp121_27, zp121_28, zp121_29, zp121_30, zp121_31, zp121_32, zp121_33, zp121_34, zp79_2, zx2, zx13, zx14, zx15, zx17, zx28, zx29, zx30, zx32, zx43, zx44, zx45, zx47, zx78, zx80, zx84, zx85, zx86, zx88, zx89, zx90, zx99, zx120, zx122, zx123, zx124, zx125, zx126, zx127, zx128, zx129, zx130, zx131, zx132, zx133, zx134, zx135, zx136, zx137, zx138, zx139, zx140, zx141, zx142, zx143, zx144, zx145, zg2, zg17, zg32, zgo3, zgo18, zgo33, zl47, zlo, zlp, zlx, zs90, zso, zsp, zsx, zt99, zto, ztp1, ztp2, ztgo, ztso, ztsp, ztsx, zc0, zi0, zc1, zi1, zc2, zi2, zc3, zi3, zc4, zi4, zc5, zi5, zin, zcl, nI_1, Bool.and_self, Bool.true_and, Bool.and_true, q_misSheet, ha, hm, m1ge]
  obtain ⟨g0, g1⟩ := ge0 h5 hm
  have hR := hI.1.1
  obtain ⟨hn, en⟩ := hR.2.2.2.2.1.n
  obtain ⟨M1, p1, p2, p3, p4⟩ := q_weigh (lp := lp) gu1 hR
  obtain ⟨M2, q1, q2, q3⟩ := q_seat (lp := lp) (s := s) (sz := sz) (M := M1) (V := pvS (M 122)) (c := fun k => M 139 (24 * s + k)) hs hn h1 (by rw [p4 _ (by omega) (by omega) (by omega)]; exact h2) (by rw [p4 _ (by omega) (by omega) (by omega)]; exact h6) (by rw [p3]; exact en) p2
  have r122 : M2 122 = M 122 := by rw [q3 122 (by decide), p4 122 (by decide) (by decide) (by decide)]
  obtain ⟨M3, s1, s2, s3, s4⟩ := q_findBests (lp := lp) (M0 := M) (M := M2) (by rw [r122]; exact ⟨hR.2.2.2.2.1, hR.2.2.2.1.1⟩)
  rw [r122] at s2
  have er : ∀ z, z ≠ 78 → z ≠ 83 → z ≠ 84 → z ≠ 86 → z ≠ 125 → z ≠ 126 → z ≠ 135 → z ≠ 136 → M3 z = M z := fun z z1 z2 z3 z4 z5 z6 z7 z8 => by rw [s4 z z5 z6 z7 z8, q3 z z4, p4 z z1 z2 z3]
  have f1 := q_firstLeave (lp := lp) (M := M2) (c := fun k => M 139 (24 * s + k)) hn (by rw [q3 83 (by decide), p3]; exact en) (by rw [q3 84 (by decide)]; exact p2) q2
  have f2 := q_mLeave (lp := lp) (s := s) (n := cn (M 122 1)) (sz := sz) (M := M3) (V := pvS (M 122)) (c := fun k => M 139 (24 * s + k)) hs hn (by rw [er 122 (by decide) (by decide) (by decide) (by decide) (by decide) (by decide) (by decide) (by decide)]; exact en) h1 (by rw [er 138 (by decide) (by decide) (by decide) (by decide) (by decide) (by decide) (by decide) (by decide)]; exact h3) (fun k hk => by rw [er 139 (by decide) (by decide) (by decide) (by decide) (by decide) (by decide) (by decide) (by decide)]) s2 (fun a b => by
    rcases pv_cases (M 122) a b with ⟨-, c⟩ | ⟨-, c, d⟩
    · exact Or.inl c
    · exact Or.inr ⟨_, d, c⟩)
  have e121 : M3 121 = M 121 := er 121 (by decide) (by decide) (by decide) (by decide) (by decide) (by decide) (by decide) (by decide)
  refine ⟨lvO (pvS (M 122)) (fun k => M 139 (24 * s + k)) sz (cn (M 122 1)) (cn (M 122 1)) 0, lp, M2, M3, ?_, ?_, hI.scr (fun k hk hk2 => ?_) (by rw [e121]) (by rw [e121]) (by rw [e121])⟩
  · simp (disch := omega) only [fxX9_leaves, am_gd_t, am_lt_e, am_bd_s, bi_0, bi_bz, bz0, bz1, nz2, nz10, nz100, hp_gi, hp_si, ↓reduceIte, if_true, if_false, Bool.true_eq_false, Bool.false_eq_true, eq_self, reduceCtorEq, zo0, zp0_0, zp0_1, zp0_2, zp0_4, zp0_5, zp0_6, zp0_7, zp0_8, zp0_9, zp0_10, zo1, zp1_0, zp1_5, zp1_6, zp1_9, zo16, zp16_0, zp16_5, zp16_6, zp16_9, zo31, zp31_0, zp31_5, zp31_6, zp31_9, zo46, zp46_0, zp46_1, zp46_2, zo79, zp79_0, zo83, zp83_0, zp83_1, zp83_2, zo87, zp87_0, zp87_1, zo121, zp121_0, zp121_1, zp121_2, zp121_4, zp121_5, zp121_6, zp121_7, zp121_8, zp121_16, zp121_17, zp121_18, zp121_21, zp121_23, zp121_24, zp121_25, zp121_26, zp121_27, zp121_28, zp121_29, zp121_30, zp121_31, zp121_32, zp121_33, zp121_34, zp79_2, zx2, zx13, zx14, zx15, zx17, zx28, zx29, zx30, zx32, zx43, zx44, zx45, zx47, zx78, zx80, zx84, zx85, zx86, zx88, zx89, zx90, zx99, zx120, zx122, zx123, zx124, zx125, zx126, zx127, zx128, zx129, zx130, zx131, zx132, zx133, zx134, zx135, zx136, zx137, zx138, zx139, zx140, zx141, zx142, zx143, zx144, zx145, zg2, zg17, zg32, zgo3, zgo18, zgo33, zl47, zlo, zlp, zlx, zs90, zso, zsp, zsx, zt99, zto, ztp1, ztp2, ztgo, ztso, ztsp, ztsx, zc0, zi0, zc1, zi1, zc2, zi2, zc3, zi3, zc4, zi4, zc5, zi5, zin, zcl, nI_1, Bool.and_self, Bool.true_and, Bool.and_true, q_within, ha, q_isMissing ho, h4, hm, decide_false, p1, q1, f1]
  · have e137 : M2 137 s = M 137 s := by rw [q3 137 (by decide), p4 137 (by decide) (by decide) (by decide)]
    simp (disch := omega) only [fxX10_leaves, am_gd_t, am_lt_e, am_bd_s, bi_0, bi_bz, bz0, bz1, nz2, nz10, nz100, hp_gi, hp_si, ↓reduceIte, if_true, if_false, Bool.true_eq_false, Bool.false_eq_true, eq_self, reduceCtorEq, zo0, zp0_0, zp0_1, zp0_2, zp0_4, zp0_5, zp0_6, zp0_7, zp0_8, zp0_9, zp0_10, zo1, zp1_0, zp1_5, zp1_6, zp1_9, zo16, zp16_0, zp16_5, zp16_6, zp16_9, zo31, zp31_0, zp31_5, zp31_6, zp31_9, zo46, zp46_0, zp46_1, zp46_2, zo79, zp79_0, zo83, zp83_0, zp83_1, zp83_2, zo87, zp87_0, zp87_1, zo121, zp121_0, zp121_1, zp121_2, zp121_4, zp121_5, zp121_6, zp121_7, zp121_8, zp121_16, zp121_17, zp121_18, zp121_21, zp121_23, zp121_24, zp121_25, zp121_26, zp121_27, zp121_28, zp121_29, zp121_30, zp121_31, zp121_32, zp121_33, zp121_34, zp79_2, zx2, zx13, zx14, zx15, zx17, zx28, zx29, zx30, zx32, zx43, zx44, zx45, zx47, zx78, zx80, zx84, zx85, zx86, zx88, zx89, zx90, zx99, zx120, zx122, zx123, zx124, zx125, zx126, zx127, zx128, zx129, zx130, zx131, zx132, zx133, zx134, zx135, zx136, zx137, zx138, zx139, zx140, zx141, zx142, zx143, zx144, zx145, zg2, zg17, zg32, zgo3, zgo18, zgo33, zl47, zlo, zlp, zlx, zs90, zso, zsp, zsx, zt99, zto, ztp1, ztp2, ztgo, ztso, ztsp, ztsx, zc0, zi0, zc1, zi1, zc2, zi2, zc3, zi3, zc4, zi4, zc5, zi5, zin, zcl, nI_1, Bool.and_self, Bool.true_and, Bool.and_true, q_misSheet, ha, e137, g0, s1]
    exact f2
  · unfold scrP at hk
    exact er k (by omega) (by omega) (by omega) (by omega) (by omega) (by omega) (by omega) (by omega)
