/-! ===== sheets ===== -/
theorem Inv.rs {lp : Nat} {M M' : Mem} (hI : Inv lp M) (h : ∀ k, ¬ (91 ≤ k ∧ k ≤ 98) → ¬ (137 ≤ k ∧ k ≤ 139) → k ≠ 144 → M' k = M k) (hs : RS M') : Inv lp M' := by
  obtain ⟨⟨a1, a0⟩, a2, a3, a4, a5, a6, a7, a8⟩ := hI
  have e := h
  have e122 := e 122 (by omega) (by omega) (by decide)
  refine ⟨⟨by rw [e122]; exact RC_congr (fun k _ _ => e k (by omega) (by omega) (by omega)) (fun k _ _ => e k (by omega) (by omega) (by omega)) a1, by rw [e122]; exact a0⟩, RI_congr (fun k _ _ => e k (by omega) (by omega) (by omega)) (fun k _ _ => e k (by omega) (by omega) (by omega)) (e 123 (by omega) (by omega) (by omega)) (by rw [e 0 (by omega) (by omega) (by omega)]) (by rw [e 121 (by omega) (by omega) (by omega)]) (by rw [e122]; exact Nat.le_refl _) a2, RT_congr (e 80 (by omega) (by omega) (by omega)) (e 129 (by omega) (by omega) (by omega)) (by rw [e 79 (by omega) (by omega) (by omega)]) (by rw [e 121 (by omega) (by omega) (by omega)]) a3, RW_congr (e 120 (by omega) (by omega) (by omega)) (e 145 (by omega) (by omega) (by omega)) (by rw [e 0 (by omega) (by omega) (by omega)]) (by rw [e 121 (by omega) (by omega) (by omega)]) a4, hs, RL_congr (fun k _ _ => e k (by omega) (by omega) (by omega)) (fun k _ _ => e k (by omega) (by omega) (by omega)) a6, RX_congr (e 130 (by omega) (by omega) (by omega)) (e 131 (by omega) (by omega) (by omega)) (e 88 (by omega) (by omega) (by omega)) a7, a8⟩
def RS1 (M : Mem) (s : Nat) : Prop := (∃ n, n ≤ 24 ∧ M (91 + 2 * s) 1 = nI n ∧ M 138 s = nI n ∧ (M 137 s = -1 → n = 0)) ∧ (M (91 + 2 * s) 0 = M 137 s ∧ (M 137 s = -1 ∨ M 137 s = 0 ∨ M 137 s = 1)) ∧ ∀ k, k < 24 → M (92 + 2 * s) k = M 139 (24 * s + k)
theorem RS_one {M M' : Mem} {s : Nat} (hs : s < 4) (h : RS M) (hr : ∀ k, 91 ≤ k → k ≤ 98 → k ≠ 91 + 2 * s → k ≠ 92 + 2 * s → M' k = M k) (h7 : ∀ j, j ≠ s → M' 137 j = M 137 j) (h8 : ∀ j, j ≠ s → M' 138 j = M 138 j) (h9 : ∀ j k, j ≠ s → k < 24 → M' 139 (24 * j + k) = M 139 (24 * j + k)) (hn : RS1 M' s) : RS M' := by
  intro j hj
  by_cases e : j = s
  · subst e; exact hn
  · have := h j hj
    rw [hr (91 + 2 * j) (by omega) (by omega) (by omega) (by omega), hr (92 + 2 * j) (by omega) (by omega) (by omega) (by omega), h7 j e, h8 j e]
    refine ⟨this.1, this.2.1, fun k hk => ?_⟩
    rw [h9 j k e hk]
    exact this.2.2 k hk
theorem sh_cases (a : Int32) : iw a 0 3 = false ∨ (iw a 0 3 = true ∧ ∃ s, s < 4 ∧ a = nI s) := by
  cases h : iw a 0 3 with
  | false => exact Or.inl rfl
  | true =>
    obtain ⟨s, h1, h2⟩ := iw_lit 3 (b := 3) rfl (by decide) h
    exact Or.inr ⟨rfl, s, by omega, h2⟩
theorem sl_cases (a : Int32) : iw a 0 4 = false ∨ (iw a 0 4 = true ∧ ∃ s, s < 5 ∧ a = nI s) := by
  cases h : iw a 0 4 with
  | false => exact Or.inl rfl
  | true =>
    obtain ⟨s, h1, h2⟩ := iw_lit 4 (b := 4) rfl (by decide) h
    exact Or.inr ⟨rfl, s, by omega, h2⟩
theorem q_isMissing {lp k : Nat} {M : Mem} (ho : am_ob (hp lp M) (some k) 5 = true) : fxX5_isMissing (some k) (hp lp M) = some (bi (decide (M k 0 = -1)), hp lp M) := by
  simp only [fxX5_isMissing, ho, am_gd_t, am_lt_e, am_bd_s, bi_0, bi_bz, bz0, bz1, nz2, nz10, nz100, hp_gi, hp_si]
  by_cases h : M k 0 = -1 <;> simp [h, bi]
theorem q_hasPlace {lp k : Nat} {M : Mem} (ho : am_ob (hp lp M) (some k) 5 = true) (x : Int32) : fxX5_hasPlace (some k) x (hp lp M) = some (bi (iw x 0 (M k 1 - 1)), hp lp M) := by
  simp only [fxX5_hasPlace, ho, am_gd_t, am_lt_e, am_bd_s, bi_0, bi_bz, bz0, bz1, nz2, nz10, nz100, hp_gi, hp_si, q_within]
theorem q_hasPlaces {lp k : Nat} {M : Mem} (ho : am_ob (hp lp M) (some k) 5 = true) (x y : Int32) : fxX5_hasPlaces (some k) x y (hp lp M) = some (bi (iw x 0 (M k 1) && iw y 0 (M k 1 - x)), hp lp M) := by
  simp only [fxX5_hasPlaces, ho, am_gd_t, am_lt_e, am_bd_s, bi_0, bi_bz, bz0, bz1, nz2, nz10, nz100, hp_gi, hp_si, q_within]
  cases iw x 0 (M k 1) <;> cases iw y 0 (M k 1 - x) <;> rfl
theorem q_hasNumber {lp k c n : Nat} {M : Mem} (ho : am_ob (hp lp M) (some k) 5 = true) (hg : am_gr (hp lp M) (some k) 2 = some c) (hx : ∀ i, am_ix (hp lp M) (some c) 0 i = am_in i 24) (hn : n ≤ 24) (en : M k 1 = nI n) (x : Int32) : fxX5_hasNumber (some k) x (hp lp M) = some (bi (iw x 0 (nI n - 1) && !decide (M c x.toNatClampNeg = -1000000005)), hp lp M) := by
  simp only [fxX5_hasNumber, ho, am_gd_t, am_lt_e, am_bd_s, bi_0, bi_bz, bz0, bz1, nz2, nz10, nz100, hp_gi, hp_si, q_hasPlace ho, en]
  cases h : iw x 0 (nI n - 1) with
  | false => rfl
  | true =>
    obtain ⟨i, h1, rfl⟩ := iw_nI (by omega) h
    simp (disch := omega) only [am_gd_t, am_lt_e, am_bd_s, bi_0, bi_bz, bz0, bz1, nz2, nz10, nz100, hp_gi, hp_si, ↓reduceIte, if_true, if_false, Bool.true_eq_false, Bool.false_eq_true, eq_self, reduceCtorEq, zin, zcl, nI_1, Bool.and_self, Bool.true_and, Bool.and_true, hg, hx]
    by_cases q : M c i = -1000000005 <;> simp [q, bi]
theorem become_l {lp s : Nat} (hs : s < 4) : ∀ k i fuel (M : Mem), i + k = 24 → k < fuel → ∃ M', fxX5_become_b12 fuel (some (91 + 2 * s)) (nI i) (hp lp M) = some ((), hp lp M') ∧ (∀ z, z ≠ 92 + 2 * s → M' z = M z) ∧ ∀ j, M' (92 + 2 * s) j = if i ≤ j ∧ j < 24 then 0 else M (92 + 2 * s) j := by
  intro k
  induction k with
  | zero =>
    intro i fuel M hi hf
    obtain ⟨fuel, rfl⟩ : ∃ f, fuel = f + 1 := ⟨fuel - 1, by omega⟩
    obtain rfl : i = 24 := by omega
    refine ⟨M, ?_, fun _ _ => rfl, fun j => by rw [if_neg (by omega)]⟩
    simp only [fxX5_become_b12, show ((24 : Int32) ≤ nI 24) = True from by decide, ↓reduceIte, if_true, if_false, Bool.true_eq_false, Bool.false_eq_true, eq_self, reduceCtorEq]
  | succ k ih =>
    intro i fuel M hi hf
    obtain ⟨fuel, rfl⟩ : ∃ f, fuel = f + 1 := ⟨fuel - 1, by omega⟩
    obtain ⟨M', q1, q2, q3⟩ := ih (i + 1) fuel (am_up M (92 + 2 * s) i 0) (by omega) (by omega)
    refine ⟨M', ?_, fun z hz => by rw [q2 z hz, am_up_ne hz], fun j => ?_⟩
    · have h24 : ((24 : Int32) ≤ nI i) = False := zle (n := 24) (by omega) (by decide)
      simp (disch := omega) only [fxX5_become_b12, h24, am_gd_t, am_lt_e, am_bd_s, bi_0, bi_bz, bz0, bz1, nz2, nz10, nz100, hp_gi, hp_si, ↓reduceIte, if_true, if_false, Bool.true_eq_false, Bool.false_eq_true, eq_self, reduceCtorEq, zo0, zp0_0, zp0_1, zp0_2, zp0_4, zp0_5, zp0_6, zp0_7, zp0_8, zp0_9, zp0_10, zo1, zp1_0, zp1_5, zp1_6, zp1_9, zo16, zp16_0, zp16_5, zp16_6, zp16_9, zo31, zp31_0, zp31_5, zp31_6, zp31_9, zo46, zp46_0, zp46_1, zp46_2, zo79, zp79_0, zo83, zp83_0, zp83_1, zp83_2, zo87, zp87_0, zp87_1, zo121, zp121_0, zp121_1, zp121_2, zp121_4, zp121_5, zp121_6, zp121_7, zp121_8, zp121_16, zp121_17, zp121_18, zp121_21, zp121_23, zp121_24, zp121_25, zp121_26, zp121_27, zp121_28, zp121_29, zp121_30, zp121_31, zp121_32, zp121_33, zp121_34, zp79_2, zx2, zx13, zx14, zx15, zx17, zx28, zx29, zx30, zx32, zx43, zx44, zx45, zx47, zx78, zx80, zx84, zx85, zx86, zx88, zx89, zx90, zx99, zx120, zx122, zx123, zx124, zx125, zx126, zx127, zx128, zx129, zx130, zx131, zx132, zx133, zx134, zx135, zx136, zx137, zx138, zx139, zx140, zx141, zx142, zx143, zx144, zx145, zg2, zg17, zg32, zgo3, zgo18, zgo33, zl47, zlo, zlp, zlx, zs90, zso, zsp, zsx, zt99, zto, ztp1, ztp2, ztgo, ztso, ztsp, ztsx, zc0, zi0, zc1, zi1, zc2, zi2, zc3, zi3, zc4, zi4, zc5, zi5, zin, zcl, nI_1, Bool.and_self, Bool.true_and, Bool.and_true]
      exact q1
    · rw [q3 j, up_row]
      unfold up1
      by_cases h1 : j = i
      · rw [if_neg (by omega), if_pos h1, if_pos (by omega)]
      · rw [if_neg h1]
        by_cases h2 : i + 1 ≤ j ∧ j < 24
        · rw [if_pos h2, if_pos (by omega)]
        · rw [if_neg h2, if_neg (by omega)]
theorem q_sbecome {lp s : Nat} {M : Mem} (hs : s < 4) (a b : Int32) : ∃ M', fxX5_become (some (91 + 2 * s)) a b (hp lp M) = some ((), hp lp M') ∧ (∀ z, z ≠ 91 + 2 * s → z ≠ 92 + 2 * s → M' z = M z) ∧ M' (91 + 2 * s) 0 = a ∧ M' (91 + 2 * s) 1 = b ∧ ∀ j, j < 24 → M' (92 + 2 * s) j = 0 := by
  obtain ⟨M', q1, q2, q3⟩ := become_l (lp := lp) hs 24 0 am_F (am_up (am_up M (91 + 2 * s) 0 a) (91 + 2 * s) 1 b) (by omega) (by unfold am_F; omega)
  refine ⟨M', ?_, fun z h1 h2 => by rw [q2 z h2, am_up_ne h1, am_up_ne h1], by rw [q2 _ (by omega), up_nj (by decide), up_eq], by rw [q2 _ (by omega), up_eq], fun j hj => by rw [q3 j, if_pos (by omega)]⟩
  simp (disch := omega) only [fxX5_become, am_gd_t, am_lt_e, am_bd_s, bi_0, bi_bz, bz0, bz1, nz2, nz10, nz100, hp_gi, hp_si, ↓reduceIte, if_true, if_false, Bool.true_eq_false, Bool.false_eq_true, eq_self, reduceCtorEq, zo0, zp0_0, zp0_1, zp0_2, zp0_4, zp0_5, zp0_6, zp0_7, zp0_8, zp0_9, zp0_10, zo1, zp1_0, zp1_5, zp1_6, zp1_9, zo16, zp16_0, zp16_5, zp16_6, zp16_9, zo31, zp31_0, zp31_5, zp31_6, zp31_9, zo46, zp46_0, zp46_1, zp46_2, zo79, zp79_0, zo83, zp83_0, zp83_1, zp83_2, zo87, zp87_0, zp87_1, zo121, zp121_0, zp121_1, zp121_2, zp121_4, zp121_5, zp121_6, zp121_7, zp121_8, zp121_16, zp121_17, zp121_18, zp121_21, zp121_23, zp121_24, zp121_25, zp121_26, zp121_27, zp121_28, zp121_29, zp121_30, zp121_31, zp121_32, zp121_33, zp121_34, zp79_2, zx2, zx13, zx14, zx15, zx17, zx28, zx29, zx30, zx32, zx43, zx44, zx45, zx47, zx78, zx80, zx84, zx85, zx86, zx88, zx89, zx90, zx99, zx120, zx122, zx123, zx124, zx125, zx126, zx127, zx128, zx129, zx130, zx131, zx132, zx133, zx134, zx135, zx136, zx137, zx138, zx139, zx140, zx141, zx142, zx143, zx144, zx145, zg2, zg17, zg32, zgo3, zgo18, zgo33, zl47, zlo, zlp, zlx, zs90, zso, zsp, zsx, zt99, zto, ztp1, ztp2, ztgo, ztso, ztsp, ztsx, zc0, zi0, zc1, zi1, zc2, zi2, zc3, zi3, zc4, zi4, zc5, zi5, zin, zcl, nI_1, Bool.and_self, Bool.true_and, Bool.and_true]
  exact q1
theorem nI24 (s k : Nat) : ((24 : Int32) * nI s) + nI k = nI (24 * s + k) := by
  rw [show (24 : Int32) = nI 24 from rfl, pk_mul, nI_add]
theorem msheet_l {lp s : Nat} (hs : s < 4) : ∀ k i fuel (M : Mem), i + k = 24 → k < fuel → ∃ M', fxX10_sheet_b66 fuel (some 121) (nI s) (nI i) (hp lp M) = some (M 138 s, hp lp M') ∧ (∀ z, z ≠ 139 → M' z = M z) ∧ ∀ j, M' 139 j = if 24 * s + i ≤ j ∧ j < 24 * s + 24 then 0 else M 139 j := by
  intro k
  induction k with
  | zero =>
    intro i fuel M hi hf
    obtain ⟨fuel, rfl⟩ : ∃ f, fuel = f + 1 := ⟨fuel - 1, by omega⟩
    obtain rfl : i = 24 := by omega
    refine ⟨M, ?_, fun _ _ => rfl, fun j => by rw [if_neg (by omega)]⟩
    simp (disch := omega) only [fxX10_sheet_b66, show ((24 : Int32) ≤ nI 24) = True from by decide, am_gd_t, am_lt_e, am_bd_s, bi_0, bi_bz, bz0, bz1, nz2, nz10, nz100, hp_gi, hp_si, ↓reduceIte, if_true, if_false, Bool.true_eq_false, Bool.false_eq_true, eq_self, reduceCtorEq, zo0, zp0_0, zp0_1, zp0_2, zp0_4, zp0_5, zp0_6, zp0_7, zp0_8, zp0_9, zp0_10, zo1, zp1_0, zp1_5, zp1_6, zp1_9, zo16, zp16_0, zp16_5, zp16_6, zp16_9, zo31, zp31_0, zp31_5, zp31_6, zp31_9, zo46, zp46_0, zp46_1, zp46_2, zo79, zp79_0, zo83, zp83_0, zp83_1, zp83_2, zo87, zp87_0, zp87_1, zo121, zp121_0, zp121_1, zp121_2, zp121_4, zp121_5, zp121_6, zp121_7, zp121_8, zp121_16, zp121_17, zp121_18, zp121_21, zp121_23, zp121_24, zp121_25, zp121_26, zp121_27, zp121_28, zp121_29, zp121_30, zp121_31, zp121_32, zp121_33, zp121_34, zp79_2, zx2, zx13, zx14, zx15, zx17, zx28, zx29, zx30, zx32, zx43, zx44, zx45, zx47, zx78, zx80, zx84, zx85, zx86, zx88, zx89, zx90, zx99, zx120, zx122, zx123, zx124, zx125, zx126, zx127, zx128, zx129, zx130, zx131, zx132, zx133, zx134, zx135, zx136, zx137, zx138, zx139, zx140, zx141, zx142, zx143, zx144, zx145, zg2, zg17, zg32, zgo3, zgo18, zgo33, zl47, zlo, zlp, zlx, zs90, zso, zsp, zsx, zt99, zto, ztp1, ztp2, ztgo, ztso, ztsp, ztsx, zc0, zi0, zc1, zi1, zc2, zi2, zc3, zi3, zc4, zi4, zc5, zi5, zin, zcl, nI_1, Bool.and_self, Bool.true_and, Bool.and_true]
  | succ k ih =>
    intro i fuel M hi hf
    obtain ⟨fuel, rfl⟩ : ∃ f, fuel = f + 1 := ⟨fuel - 1, by omega⟩
    obtain ⟨M', q1, q2, q3⟩ := ih (i + 1) fuel (am_up M 139 (24 * s + i) 0) (by omega) (by omega)
    refine ⟨M', ?_, fun z hz => by rw [q2 z hz, am_up_ne hz], fun j => ?_⟩
    · have h24 : ((24 : Int32) ≤ nI i) = False := zle (n := 24) (by omega) (by decide)
      simp (disch := omega) only [fxX10_sheet_b66, h24, am_gd_t, am_lt_e, am_bd_s, bi_0, bi_bz, bz0, bz1, nz2, nz10, nz100, hp_gi, hp_si, ↓reduceIte, if_true, if_false, Bool.true_eq_false, Bool.false_eq_true, eq_self, reduceCtorEq, zo0, zp0_0, zp0_1, zp0_2, zp0_4, zp0_5, zp0_6, zp0_7, zp0_8, zp0_9, zp0_10, zo1, zp1_0, zp1_5, zp1_6, zp1_9, zo16, zp16_0, zp16_5, zp16_6, zp16_9, zo31, zp31_0, zp31_5, zp31_6, zp31_9, zo46, zp46_0, zp46_1, zp46_2, zo79, zp79_0, zo83, zp83_0, zp83_1, zp83_2, zo87, zp87_0, zp87_1, zo121, zp121_0, zp121_1, zp121_2, zp121_4, zp121_5, zp121_6, zp121_7, zp121_8, zp121_16, zp121_17, zp121_18, zp121_21, zp121_23, zp121_24, zp121_25, zp121_26, zp121_27, zp121_28, zp121_29, zp121_30, zp121_31, zp121_32, zp121_33, zp121_34, zp79_2, zx2, zx13, zx14, zx15, zx17, zx28, zx29, zx30, zx32, zx43, zx44, zx45, zx47, zx78, zx80, zx84, zx85, zx86, zx88, zx89, zx90, zx99, zx120, zx122, zx123, zx124, zx125, zx126, zx127, zx128, zx129, zx130, zx131, zx132, zx133, zx134, zx135, zx136, zx137, zx138, zx139, zx140, zx141, zx142, zx143, zx144, zx145, zg2, zg17, zg32, zgo3, zgo18, zgo33, zl47, zlo, zlp, zlx, zs90, zso, zsp, zsx, zt99, zto, ztp1, ztp2, ztgo, ztso, ztsp, ztsx, zc0, zi0, zc1, zi1, zc2, zi2, zc3, zi3, zc4, zi4, zc5, zi5, zin, zcl, nI_1, Bool.and_self, Bool.true_and, Bool.and_true, nI24]
      rw [up_nk (by decide)] at q1
      exact q1
    · rw [q3 j, up_row]
      unfold up1
      by_cases h1 : j = 24 * s + i
      · rw [if_neg (by omega), if_pos h1, if_pos (by omega)]
      · rw [if_neg h1]
        by_cases h2 : 24 * s + (i + 1) ≤ j ∧ j < 24 * s + 24
        · rw [if_pos h2, if_pos (by omega)]
        · rw [if_neg h2, if_neg (by omega)]
/-- the reference's sheet becomes another -/
theorem q_msheet {lp s : Nat} {M : Mem} (hs : s < 4) (a b : Int32) : ∃ M', fxX10_sheet_b41 (some 121) (nI s) a b (hp lp M) = some ((if 0 ≤ a then b else 0), hp lp M') ∧ (∀ z, z ≠ 137 → z ≠ 138 → z ≠ 139 → M' z = M z) ∧ M' 137 = up1 (M 137) s a ∧ M' 138 = up1 (M 138) s (if 0 ≤ a then b else 0) ∧ (∀ j k, j ≠ s → k < 24 → M' 139 (24 * j + k) = M 139 (24 * j + k)) ∧ ∀ k, k < 24 → M' 139 (24 * s + k) = 0 := by
  obtain ⟨M', q1, q2, q3⟩ := msheet_l (lp := lp) hs 24 0 am_F (am_up (am_up M 137 s a) 138 s (if 0 ≤ a then b else 0)) (by omega) (by unfold am_F; omega)
  refine ⟨M', ?_, fun z h1 h2 h3 => by rw [q2 z h3, am_up_ne h2, am_up_ne h1], by rw [q2 _ (by omega), am_up_ne (by decide), up_row], by rw [q2 _ (by omega), up_row, am_up_ne (by decide)], fun j k hj hk => by rw [q3 _, if_neg (by omega), am_up_ne (by decide), am_up_ne (by decide)], fun k hk => by rw [q3 _, if_pos (by omega)]⟩
  rw [up_eq] at q1
  by_cases h : 0 ≤ a
  · rw [if_pos h] at q1 ⊢
    simp (disch := omega) only [fxX10_sheet_b41, fxX10_sheet_b62, h, am_gd_t, am_lt_e, am_bd_s, bi_0, bi_bz, bz0, bz1, nz2, nz10, nz100, hp_gi, hp_si, ↓reduceIte, if_true, if_false, Bool.true_eq_false, Bool.false_eq_true, eq_self, reduceCtorEq, zo0, zp0_0, zp0_1, zp0_2, zp0_4, zp0_5, zp0_6, zp0_7, zp0_8, zp0_9, zp0_10, zo1, zp1_0, zp1_5, zp1_6, zp1_9, zo16, zp16_0, zp16_5, zp16_6, zp16_9, zo31, zp31_0, zp31_5, zp31_6, zp31_9, zo46, zp46_0, zp46_1, zp46_2, zo79, zp79_0, zo83, zp83_0, zp83_1, zp83_2, zo87, zp87_0, zp87_1, zo121, zp121_0, zp121_1, zp121_2, zp121_4, zp121_5, zp121_6, zp121_7, zp121_8, zp121_16, zp121_17, zp121_18, zp121_21, zp121_23, zp121_24, zp121_25, zp121_26, zp121_27, zp121_28, zp121_29, zp121_30, zp121_31, zp121_32, zp121_33, zp121_34, zp79_2, zx2, zx13, zx14, zx15, zx17, zx28, zx29, zx30, zx32, zx43, zx44, zx45, zx47, zx78, zx80, zx84, zx85, zx86, zx88, zx89, zx90, zx99, zx120, zx122, zx123, zx124, zx125, zx126, zx127, zx128, zx129, zx130, zx131, zx132, zx133, zx134, zx135, zx136, zx137, zx138, zx139, zx140, zx141, zx142, zx143, zx144, zx145, zg2, zg17, zg32, zgo3, zgo18, zgo33, zl47, zlo, zlp, zlx, zs90, zso, zsp, zsx, zt99, zto, ztp1, ztp2, ztgo, ztso, ztsp, ztsx, zc0, zi0, zc1, zi1, zc2, zi2, zc3, zi3, zc4, zi4, zc5, zi5, zin, zcl, nI_1, Bool.and_self, Bool.true_and, Bool.and_true]
    exact q1
  · rw [if_neg h] at q1 ⊢
    simp (disch := omega) only [fxX10_sheet_b41, fxX10_sheet_b62, h, am_gd_t, am_lt_e, am_bd_s, bi_0, bi_bz, bz0, bz1, nz2, nz10, nz100, hp_gi, hp_si, ↓reduceIte, if_true, if_false, Bool.true_eq_false, Bool.false_eq_true, eq_self, reduceCtorEq, zo0, zp0_0, zp0_1, zp0_2, zp0_4, zp0_5, zp0_6, zp0_7, zp0_8, zp0_9, zp0_10, zo1, zp1_0, zp1_5, zp1_6, zp1_9, zo16, zp16_0, zp16_5, zp16_6, zp16_9, zo31, zp31_0, zp31_5, zp31_6, zp31_9, zo46, zp46_0, zp46_1, zp46_2, zo79, zp79_0, zo83, zp83_0, zp83_1, zp83_2, zo87, zp87_0, zp87_1, zo121, zp121_0, zp121_1, zp121_2, zp121_4, zp121_5, zp121_6, zp121_7, zp121_8, zp121_16, zp121_17, zp121_18, zp121_21, zp121_23, zp121_24, zp121_25, zp121_26, zp121_27, zp121_28, zp121_29, zp121_30, zp121_31, zp121_32, zp121_33, zp121_34, zp79_2, zx2, zx13, zx14, zx15, zx17, zx28, zx29, zx30, zx32, zx43, zx44, zx45, zx47, zx78, zx80, zx84, zx85, zx86, zx88, zx89, zx90, zx99, zx120, zx122, zx123, zx124, zx125, zx126, zx127, zx128, zx129, zx130, zx131, zx132, zx133, zx134, zx135, zx136, zx137, zx138, zx139, zx140, zx141, zx142, zx143, zx144, zx145, zg2, zg17, zg32, zgo3, zgo18, zgo33, zl47, zlo, zlp, zlx, zs90, zso, zsp, zsx, zt99, zto, ztp1, ztp2, ztgo, ztso, ztsp, ztsx, zc0, zi0, zc1, zi1, zc2, zi2, zc3, zi3, zc4, zi4, zc5, zi5, zin, zcl, nI_1, Bool.and_self, Bool.true_and, Bool.and_true]
    exact q1
theorem sort_cases {b : Int32} (h : iw b (-1) 1 = true) : b = -1 ∨ b = 0 ∨ b = 1 := by
  simp only [iw, Bool.and_eq_true, decide_eq_true_eq, Int32.le_iff_toInt_le] at h
  have e1 : (1 : Int32).toInt = 1 := rfl
  have e2 : (-1 : Int32).toInt = -1 := rfl
  have e0 : (0 : Int32).toInt = 0 := rfl
  rcases (show b.toInt = -1 ∨ b.toInt = 0 ∨ b.toInt = 1 by omega) with h | h | h
  · exact Or.inl (Int32.toInt_inj.mp (h.trans e2.symm))
  · exact Or.inr (Or.inl (Int32.toInt_inj.mp (h.trans e0.symm)))
  · exact Or.inr (Or.inr (Int32.toInt_inj.mp (h.trans e1.symm)))
theorem sheet_both {lp s n : Nat} {M : Mem} (hI : Inv lp M) (hs : s < 4) (b c : Int32) (hb : b = -1 ∨ b = 0 ∨ b = 1) (hn : n ≤ 24) (hc : c = nI n) (hb0 : b = -1 → n = 0) : ∃ M1 M2, fxX5_become (some (91 + 2 * s)) b c (hp lp M) = some ((), hp lp M1) ∧ fxX10_sheet_b41 (some 121) (nI s) b c (hp lp M1) = some (c, hp lp M2) ∧ Inv lp M2 := by
  obtain ⟨M1, q1, q2, q3, q4, q5⟩ := q_sbecome (lp := lp) (M := M) hs b c
  obtain ⟨M2, r1, r2, r3, r4, r5, r6⟩ := q_msheet (lp := lp) (M := M1) hs b c
  have hc2 : (if 0 ≤ b then c else 0) = c := by
    rcases hb with h | h | h
    · rw [h, if_neg (by decide), hc, hb0 h]; rfl
    · rw [h, if_pos (by decide)]
    · rw [h, if_pos (by decide)]
  rw [hc2] at r1 r4
  refine ⟨M1, M2, q1, r1, hI.rs (fun k h1 h2 h3 => by rw [r2 k (by omega) (by omega) (by omega), q2 k (by omega) (by omega)]) ?_⟩
  refine RS_one hs hI.2.2.2.2.1 (fun k h1 h2 h3 h4 => by rw [r2 k (by omega) (by omega) (by omega), q2 k h3 h4]) (fun j hj => by rw [r3, up1_ne hj, q2 137 (by omega) (by omega)]) (fun j hj => by rw [r4, up1_ne hj, q2 138 (by omega) (by omega)]) (fun j k hj hk => by rw [r5 j k hj hk, q2 139 (by omega) (by omega)]) ⟨⟨n, hn, ?_, ?_, ?_⟩, ⟨?_, ?_⟩, fun k hk => ?_⟩
  · rw [r2 _ (by omega) (by omega) (by omega), q4, hc]
  · rw [r4, up1_eq, hc]
  · rw [r3, up1_eq]; exact hb0
  · rw [r3, up1_eq, r2 _ (by omega) (by omega) (by omega), q3]
  · rw [r3, up1_eq]; exact hb
  · rw [r6 k hk, r2 _ (by omega) (by omega) (by omega), q5 k hk]
theorem P_sheet (a b c : Int32) : Pair (fxX9_sheet (some 0) a b c) (fxX10_sheet (some 121) a b c) := by
  intro lp M hI
  rcases sh_cases a with ha | ⟨ha, s, hs, rfl⟩
  · exact ⟨-1000000001, lp, M, M, by simp only [fxX9_sheet, am_gd_t, am_lt_e, am_bd_s, bi_0, bi_bz, bz0, bz1, nz2, nz10, nz100, hp_gi, hp_si, ↓reduceIte, if_true, if_false, Bool.true_eq_false, Bool.false_eq_true, eq_self, reduceCtorEq, q_within, ha], by simp only [fxX10_sheet, am_gd_t, am_lt_e, am_bd_s, bi_0, bi_bz, bz0, bz1, nz2, nz10, nz100, hp_gi, hp_si, ↓reduceIte, if_true, if_false, Bool.true_eq_false, Bool.false_eq_true, eq_self, reduceCtorEq, q_misSheet, ha], hI⟩
  cases hb : iw b (-1) 1 with
  | false => exact ⟨-1000000001, lp, M, M, by simp only [fxX9_sheet, am_gd_t, am_lt_e, am_bd_s, bi_0, bi_bz, bz0, bz1, nz2, nz10, nz100, hp_gi, hp_si, ↓reduceIte, if_true, if_false, Bool.true_eq_false, Bool.false_eq_true, eq_self, reduceCtorEq, q_within, ha, hb], by simp only [fxX10_sheet, am_gd_t, am_lt_e, am_bd_s, bi_0, bi_bz, bz0, bz1, nz2, nz10, nz100, hp_gi, hp_si, ↓reduceIte, if_true, if_false, Bool.true_eq_false, Bool.false_eq_true, eq_self, reduceCtorEq, q_misSheet, q_in, ha, hb], hI⟩
  | true =>
    have hbc := sort_cases hb
    by_cases hb1 : b = -1
    · subst hb1
      obtain ⟨M1, M2, q1, q2, q3⟩ := sheet_both (n := 0) hI hs (-1) 0 (Or.inl rfl) (by omega) rfl (fun _ => rfl)
      refine ⟨0, lp, M1, M2, ?_, ?_, q3⟩
      · simp (disch := omega) only [fxX9_sheet, am_gd_t, am_lt_e, am_bd_s, bi_0, bi_bz, bz0, bz1, nz2, nz10, nz100, hp_gi, hp_si, ↓reduceIte, if_true, if_false, Bool.true_eq_false, Bool.false_eq_true, eq_self, reduceCtorEq, zo0, zp0_0, zp0_1, zp0_2, zp0_4, zp0_5, zp0_6, zp0_7, zp0_8, zp0_9, zp0_10, zo1, zp1_0, zp1_5, zp1_6, zp1_9, zo16, zp16_0, zp16_5, zp16_6, zp16_9, zo31, zp31_0, zp31_5, zp31_6, zp31_9, zo46, zp46_0, zp46_1, zp46_2, zo79, zp79_0, zo83, zp83_0, zp83_1, zp83_2, zo87, zp87_0, zp87_1, zo121, zp121_0, zp121_1, zp121_2, zp121_4, zp121_5, zp121_6, zp121_7, zp121_8, zp121_16, zp121_17, zp121_18, zp121_21, zp121_23, zp121_24, zp121_25, zp121_26, zp121_27, zp121_28, zp121_29, zp121_30, zp121_31, zp121_32, zp121_33, zp121_34, zp79_2, zx2, zx13, zx14, zx15, zx17, zx28, zx29, zx30, zx32, zx43, zx44, zx45, zx47, zx78, zx80, zx84, zx85, zx86, zx88, zx89, zx90, zx99, zx120, zx122, zx123, zx124, zx125, zx126, zx127, zx128, zx129, zx130, zx131, zx132, zx133, zx134, zx135, zx136, zx137, zx138, zx139, zx140, zx141, zx142, zx143, zx144, zx145, zg2, zg17, zg32, zgo3, zgo18, zgo33, zl47, zlo, zlp, zlx, zs90, zso, zsp, zsx, zt99, zto, ztp1, ztp2, ztgo, ztso, ztsp, ztsx, zc0, zi0, zc1, zi1, zc2, zi2, zc3, zi3, zc4, zi4, zc5, zi5, zin, zcl, nI_1, Bool.and_self, Bool.true_and, Bool.and_true, q_within, ha, hb, q1]
      · have h0 : ((-1 : Int32) < 0) = True := by decide
        simp (disch := omega) only [fxX10_sheet, fxX10_sheet_b29, am_gd_t, am_lt_e, am_bd_s, bi_0, bi_bz, bz0, bz1, nz2, nz10, nz100, hp_gi, hp_si, ↓reduceIte, if_true, if_false, Bool.true_eq_false, Bool.false_eq_true, eq_self, reduceCtorEq, zo0, zp0_0, zp0_1, zp0_2, zp0_4, zp0_5, zp0_6, zp0_7, zp0_8, zp0_9, zp0_10, zo1, zp1_0, zp1_5, zp1_6, zp1_9, zo16, zp16_0, zp16_5, zp16_6, zp16_9, zo31, zp31_0, zp31_5, zp31_6, zp31_9, zo46, zp46_0, zp46_1, zp46_2, zo79, zp79_0, zo83, zp83_0, zp83_1, zp83_2, zo87, zp87_0, zp87_1, zo121, zp121_0, zp121_1, zp121_2, zp121_4, zp121_5, zp121_6, zp121_7, zp121_8, zp121_16, zp121_17, zp121_18, zp121_21, zp121_23, zp121_24, zp121_25, zp121_26, zp121_27, zp121_28, zp121_29, zp121_30, zp121_31, zp121_32, zp121_33, zp121_34, zp79_2, zx2, zx13, zx14, zx15, zx17, zx28, zx29, zx30, zx32, zx43, zx44, zx45, zx47, zx78, zx80, zx84, zx85, zx86, zx88, zx89, zx90, zx99, zx120, zx122, zx123, zx124, zx125, zx126, zx127, zx128, zx129, zx130, zx131, zx132, zx133, zx134, zx135, zx136, zx137, zx138, zx139, zx140, zx141, zx142, zx143, zx144, zx145, zg2, zg17, zg32, zgo3, zgo18, zgo33, zl47, zlo, zlp, zlx, zs90, zso, zsp, zsx, zt99, zto, ztp1, ztp2, ztgo, ztso, ztsp, ztsx, zc0, zi0, zc1, zi1, zc2, zi2, zc3, zi3, zc4, zi4, zc5, zi5, zin, zcl, nI_1, Bool.and_self, Bool.true_and, Bool.and_true, q_misSheet, q_in, ha, hb, h0]
        have hz : ∀ c', fxX10_sheet_b41 (some 121) (nI s) (-1) c' (hp lp M1) = fxX10_sheet_b41 (some 121) (nI s) (-1) 0 (hp lp M1) := by
          intro c'
          simp (disch := omega) only [fxX10_sheet_b41, am_gd_t, am_lt_e, am_bd_s, bi_0, bi_bz, bz0, bz1, nz2, nz10, nz100, hp_gi, hp_si, ↓reduceIte, if_true, if_false, Bool.true_eq_false, Bool.false_eq_true, eq_self, reduceCtorEq, zo0, zp0_0, zp0_1, zp0_2, zp0_4, zp0_5, zp0_6, zp0_7, zp0_8, zp0_9, zp0_10, zo1, zp1_0, zp1_5, zp1_6, zp1_9, zo16, zp16_0, zp16_5, zp16_6, zp16_9, zo31, zp31_0, zp31_5, zp31_6, zp31_9, zo46, zp46_0, zp46_1, zp46_2, zo79, zp79_0, zo83, zp83_0, zp83_1, zp83_2, zo87, zp87_0, zp87_1, zo121, zp121_0, zp121_1, zp121_2, zp121_4, zp121_5, zp121_6, zp121_7, zp121_8, zp121_16, zp121_17, zp121_18, zp121_21, zp121_23, zp121_24, zp121_25, zp121_26, zp121_27, zp121_28, zp121_29, zp121_30, zp121_31, zp121_32, zp121_33, zp121_34, zp79_2, zx2, zx13, zx14, zx15, zx17, zx28, zx29, zx30, zx32, zx43, zx44, zx45, zx47, zx78, zx80, zx84, zx85, zx86, zx88, zx89, zx90, zx99, zx120, zx122, zx123, zx124, zx125, zx126, zx127, zx128, zx129, zx130, zx131, zx132, zx133, zx134, zx135, zx136, zx137, zx138, zx139, zx140, zx141, zx142, zx143, zx144, zx145, zg2, zg17, zg32, zgo3, zgo18, zgo33, zl47, zlo, zlp, zlx, zs90, zso, zsp, zsx, zt99, zto, ztp1, ztp2, ztgo, ztso, ztsp, ztsx, zc0, zi0, zc1, zi1, zc2, zi2, zc3, zi3, zc4, zi4, zc5, zi5, zin, zcl, nI_1, Bool.and_self, Bool.true_and, Bool.and_true, show ((0 : Int32) ≤ -1) = False from by decide]
        rw [hz, q2]
    · have hlt : (b < 0) = False := by
        rcases hbc with h | h | h
        · exact absurd h hb1
        · subst h; decide
        · subst h; decide
      by_cases hc : c ≤ 24
      · by_cases hc0 : 0 ≤ c
        · obtain ⟨n, hn, rfl⟩ := iw_lit 24 (x := c) (b := 24) rfl (by decide) (by simp [iw, hc, hc0])
          obtain ⟨M1, M2, q1, q2, q3⟩ := sheet_both (n := n) hI hs b (nI n) hbc hn rfl (fun h => absurd h hb1)
          refine ⟨nI n, lp, M1, M2, ?_, ?_, q3⟩
          · simp (disch := omega) only [fxX9_sheet, am_gd_t, am_lt_e, am_bd_s, bi_0, bi_bz, bz0, bz1, nz2, nz10, nz100, hp_gi, hp_si, ↓reduceIte, if_true, if_false, Bool.true_eq_false, Bool.false_eq_true, eq_self, reduceCtorEq, zo0, zp0_0, zp0_1, zp0_2, zp0_4, zp0_5, zp0_6, zp0_7, zp0_8, zp0_9, zp0_10, zo1, zp1_0, zp1_5, zp1_6, zp1_9, zo16, zp16_0, zp16_5, zp16_6, zp16_9, zo31, zp31_0, zp31_5, zp31_6, zp31_9, zo46, zp46_0, zp46_1, zp46_2, zo79, zp79_0, zo83, zp83_0, zp83_1, zp83_2, zo87, zp87_0, zp87_1, zo121, zp121_0, zp121_1, zp121_2, zp121_4, zp121_5, zp121_6, zp121_7, zp121_8, zp121_16, zp121_17, zp121_18, zp121_21, zp121_23, zp121_24, zp121_25, zp121_26, zp121_27, zp121_28, zp121_29, zp121_30, zp121_31, zp121_32, zp121_33, zp121_34, zp79_2, zx2, zx13, zx14, zx15, zx17, zx28, zx29, zx30, zx32, zx43, zx44, zx45, zx47, zx78, zx80, zx84, zx85, zx86, zx88, zx89, zx90, zx99, zx120, zx122, zx123, zx124, zx125, zx126, zx127, zx128, zx129, zx130, zx131, zx132, zx133, zx134, zx135, zx136, zx137, zx138, zx139, zx140, zx141, zx142, zx143, zx144, zx145, zg2, zg17, zg32, zgo3, zgo18, zgo33, zl47, zlo, zlp, zlx, zs90, zso, zsp, zsx, zt99, zto, ztp1, ztp2, ztgo, ztso, ztsp, ztsx, zc0, zi0, zc1, zi1, zc2, zi2, zc3, zi3, zc4, zi4, zc5, zi5, zin, zcl, nI_1, Bool.and_self, Bool.true_and, Bool.and_true, q_within, ha, hb, hb1, hc, hc0, q1]
          · simp (disch := omega) only [fxX10_sheet, fxX10_sheet_b29, am_gd_t, am_lt_e, am_bd_s, bi_0, bi_bz, bz0, bz1, nz2, nz10, nz100, hp_gi, hp_si, ↓reduceIte, if_true, if_false, Bool.true_eq_false, Bool.false_eq_true, eq_self, reduceCtorEq, zo0, zp0_0, zp0_1, zp0_2, zp0_4, zp0_5, zp0_6, zp0_7, zp0_8, zp0_9, zp0_10, zo1, zp1_0, zp1_5, zp1_6, zp1_9, zo16, zp16_0, zp16_5, zp16_6, zp16_9, zo31, zp31_0, zp31_5, zp31_6, zp31_9, zo46, zp46_0, zp46_1, zp46_2, zo79, zp79_0, zo83, zp83_0, zp83_1, zp83_2, zo87, zp87_0, zp87_1, zo121, zp121_0, zp121_1, zp121_2, zp121_4, zp121_5, zp121_6, zp121_7, zp121_8, zp121_16, zp121_17, zp121_18, zp121_21, zp121_23, zp121_24, zp121_25, zp121_26, zp121_27, zp121_28, zp121_29, zp121_30, zp121_31, zp121_32, zp121_33, zp121_34, zp79_2, zx2, zx13, zx14, zx15, zx17, zx28, zx29, zx30, zx32, zx43, zx44, zx45, zx47, zx78, zx80, zx84, zx85, zx86, zx88, zx89, zx90, zx99, zx120, zx122, zx123, zx124, zx125, zx126, zx127, zx128, zx129, zx130, zx131, zx132, zx133, zx134, zx135, zx136, zx137, zx138, zx139, zx140, zx141, zx142, zx143, zx144, zx145, zg2, zg17, zg32, zgo3, zgo18, zgo33, zl47, zlo, zlp, zlx, zs90, zso, zsp, zsx, zt99, zto, ztp1, ztp2, ztgo, ztso, ztsp, ztsx, zc0, zi0, zc1, zi1, zc2, zi2, zc3, zi3, zc4, zi4, zc5, zi5, zin, zcl, nI_1, Bool.and_self, Bool.true_and, Bool.and_true, q_misSheet, q_in, ha, hb, hlt, hc, hc0, q2]
        · refine ⟨-1000000014, lp, M, M, ?_, ?_, hI⟩
          · simp (disch := omega) only [fxX9_sheet, am_gd_t, am_lt_e, am_bd_s, bi_0, bi_bz, bz0, bz1, nz2, nz10, nz100, hp_gi, hp_si, ↓reduceIte, if_true, if_false, Bool.true_eq_false, Bool.false_eq_true, eq_self, reduceCtorEq, zo0, zp0_0, zp0_1, zp0_2, zp0_4, zp0_5, zp0_6, zp0_7, zp0_8, zp0_9, zp0_10, zo1, zp1_0, zp1_5, zp1_6, zp1_9, zo16, zp16_0, zp16_5, zp16_6, zp16_9, zo31, zp31_0, zp31_5, zp31_6, zp31_9, zo46, zp46_0, zp46_1, zp46_2, zo79, zp79_0, zo83, zp83_0, zp83_1, zp83_2, zo87, zp87_0, zp87_1, zo121, zp121_0, zp121_1, zp121_2, zp121_4, zp121_5, zp121_6, zp121_7, zp121_8, zp121_16, zp121_17, zp121_18, zp121_21, zp121_23, zp121_24, zp121_25, zp121_26, zp121_27, zp121_28, zp121_29, zp121_30, zp121_31, zp121_32, zp121_33, zp121_34, zp79_2, zx2, zx13, zx14, zx15, zx17, zx28, zx29, zx30, zx32, zx43, zx44, zx45, zx47, zx78, zx80, zx84, zx85, zx86, zx88, zx89, zx90, zx99, zx120, zx122, zx123, zx124, zx125, zx126, zx127, zx128, zx129, zx130, zx131, zx132, zx133, zx134, zx135, zx136, zx137, zx138, zx139, zx140, zx141, zx142, zx143, zx144, zx145, zg2, zg17, zg32, zgo3, zgo18, zgo33, zl47, zlo, zlp, zlx, zs90, zso, zsp, zsx, zt99, zto, ztp1, ztp2, ztgo, ztso, ztsp, ztsx, zc0, zi0, zc1, zi1, zc2, zi2, zc3, zi3, zc4, zi4, zc5, zi5, zin, zcl, nI_1, Bool.and_self, Bool.true_and, Bool.and_true, q_within, ha, hb, hb1, hc, hc0]
          · simp (disch := omega) only [fxX10_sheet, fxX10_sheet_b29, am_gd_t, am_lt_e, am_bd_s, bi_0, bi_bz, bz0, bz1, nz2, nz10, nz100, hp_gi, hp_si, ↓reduceIte, if_true, if_false, Bool.true_eq_false, Bool.false_eq_true, eq_self, reduceCtorEq, zo0, zp0_0, zp0_1, zp0_2, zp0_4, zp0_5, zp0_6, zp0_7, zp0_8, zp0_9, zp0_10, zo1, zp1_0, zp1_5, zp1_6, zp1_9, zo16, zp16_0, zp16_5, zp16_6, zp16_9, zo31, zp31_0, zp31_5, zp31_6, zp31_9, zo46, zp46_0, zp46_1, zp46_2, zo79, zp79_0, zo83, zp83_0, zp83_1, zp83_2, zo87, zp87_0, zp87_1, zo121, zp121_0, zp121_1, zp121_2, zp121_4, zp121_5, zp121_6, zp121_7, zp121_8, zp121_16, zp121_17, zp121_18, zp121_21, zp121_23, zp121_24, zp121_25, zp121_26, zp121_27, zp121_28, zp121_29, zp121_30, zp121_31, zp121_32, zp121_33, zp121_34, zp79_2, zx2, zx13, zx14, zx15, zx17, zx28, zx29, zx30, zx32, zx43, zx44, zx45, zx47, zx78, zx80, zx84, zx85, zx86, zx88, zx89, zx90, zx99, zx120, zx122, zx123, zx124, zx125, zx126, zx127, zx128, zx129, zx130, zx131, zx132, zx133, zx134, zx135, zx136, zx137, zx138, zx139, zx140, zx141, zx142, zx143, zx144, zx145, zg2, zg17, zg32, zgo3, zgo18, zgo33, zl47, zlo, zlp, zlx, zs90, zso, zsp, zsx, zt99, zto, ztp1, ztp2, ztgo, ztso, ztsp, ztsx, zc0, zi0, zc1, zi1, zc2, zi2, zc3, zi3, zc4, zi4, zc5, zi5, zin, zcl, nI_1, Bool.and_self, Bool.true_and, Bool.and_true, q_misSheet, q_in, ha, hb, hlt, hc, hc0]
      · refine ⟨-1000000001, lp, M, M, ?_, ?_, hI⟩
        · simp (disch := omega) only [fxX9_sheet, am_gd_t, am_lt_e, am_bd_s, bi_0, bi_bz, bz0, bz1, nz2, nz10, nz100, hp_gi, hp_si, ↓reduceIte, if_true, if_false, Bool.true_eq_false, Bool.false_eq_true, eq_self, reduceCtorEq, zo0, zp0_0, zp0_1, zp0_2, zp0_4, zp0_5, zp0_6, zp0_7, zp0_8, zp0_9, zp0_10, zo1, zp1_0, zp1_5, zp1_6, zp1_9, zo16, zp16_0, zp16_5, zp16_6, zp16_9, zo31, zp31_0, zp31_5, zp31_6, zp31_9, zo46, zp46_0, zp46_1, zp46_2, zo79, zp79_0, zo83, zp83_0, zp83_1, zp83_2, zo87, zp87_0, zp87_1, zo121, zp121_0, zp121_1, zp121_2, zp121_4, zp121_5, zp121_6, zp121_7, zp121_8, zp121_16, zp121_17, zp121_18, zp121_21, zp121_23, zp121_24, zp121_25, zp121_26, zp121_27, zp121_28, zp121_29, zp121_30, zp121_31, zp121_32, zp121_33, zp121_34, zp79_2, zx2, zx13, zx14, zx15, zx17, zx28, zx29, zx30, zx32, zx43, zx44, zx45, zx47, zx78, zx80, zx84, zx85, zx86, zx88, zx89, zx90, zx99, zx120, zx122, zx123, zx124, zx125, zx126, zx127, zx128, zx129, zx130, zx131, zx132, zx133, zx134, zx135, zx136, zx137, zx138, zx139, zx140, zx141, zx142, zx143, zx144, zx145, zg2, zg17, zg32, zgo3, zgo18, zgo33, zl47, zlo, zlp, zlx, zs90, zso, zsp, zsx, zt99, zto, ztp1, ztp2, ztgo, ztso, ztsp, ztsx, zc0, zi0, zc1, zi1, zc2, zi2, zc3, zi3, zc4, zi4, zc5, zi5, zin, zcl, nI_1, Bool.and_self, Bool.true_and, Bool.and_true, q_within, ha, hb, hb1, hc]
        · simp (disch := omega) only [fxX10_sheet, fxX10_sheet_b29, am_gd_t, am_lt_e, am_bd_s, bi_0, bi_bz, bz0, bz1, nz2, nz10, nz100, hp_gi, hp_si, ↓reduceIte, if_true, if_false, Bool.true_eq_false, Bool.false_eq_true, eq_self, reduceCtorEq, zo0, zp0_0, zp0_1, zp0_2, zp0_4, zp0_5, zp0_6, zp0_7, zp0_8, zp0_9, zp0_10, zo1, zp1_0, zp1_5, zp1_6, zp1_9, zo16, zp16_0, zp16_5, zp16_6, zp16_9, zo31, zp31_0, zp31_5, zp31_6, zp31_9, zo46, zp46_0, zp46_1, zp46_2, zo79, zp79_0, zo83, zp83_0, zp83_1, zp83_2, zo87, zp87_0, zp87_1, zo121, zp121_0, zp121_1, zp121_2, zp121_4, zp121_5, zp121_6, zp121_7, zp121_8, zp121_16, zp121_17, zp121_18, zp121_21, zp121_23, zp121_24, zp121_25, zp121_26, zp121_27, zp121_28, zp121_29, zp121_30, zp121_31, zp121_32, zp121_33, zp121_34, zp79_2, zx2, zx13, zx14, zx15, zx17, zx28, zx29, zx30, zx32, zx43, zx44, zx45, zx47, zx78, zx80, zx84, zx85, zx86, zx88, zx89, zx90, zx99, zx120, zx122, zx123, zx124, zx125, zx126, zx127, zx128, zx129, zx130, zx131, zx132, zx133, zx134, zx135, zx136, zx137, zx138, zx139, zx140, zx141, zx142, zx143, zx144, zx145, zg2, zg17, zg32, zgo3, zgo18, zgo33, zl47, zlo, zlp, zlx, zs90, zso, zsp, zsx, zt99, zto, ztp1, ztp2, ztgo, ztso, ztsp, ztsx, zc0, zi0, zc1, zi1, zc2, zi2, zc3, zi3, zc4, zi4, zc5, zi5, zin, zcl, nI_1, Bool.and_self, Bool.true_and, Bool.and_true, q_misSheet, q_in, ha, hb, hlt, hc]
