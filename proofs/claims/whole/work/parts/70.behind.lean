/-! ===== behind, keepHome ===== -/
/-- the value of the best pairing of all -/
noncomputable def bV (g : Nat → Int32) : Nat := Classical.epsilon (fun x : Nat => ∃ G, Good (cn (g 1)) (pG g) (wG g) G ∧ x = G (2 ^ cn (g 1) - 1))
theorem bV_eq {g : Nat → Int32} (hn : cn (g 1) ≤ 10) {G : Nat → Nat} (h : Good (cn (g 1)) (pG g) (wG g) G) : G (2 ^ cn (g 1) - 1) = bV g := by
  have hs : ∃ G, Good (cn (g 1)) (pG g) (wG g) G ∧ bV g = G (2 ^ cn (g 1) - 1) := Classical.epsilon_spec (p := fun x : Nat => ∃ G, Good (cn (g 1)) (pG g) (wG g) G ∧ x = G (2 ^ cn (g 1) - 1)) ⟨_, G, h, rfl⟩
  obtain ⟨G', h', e⟩ := hs
  rw [e]
  have hpos : 0 < 2 ^ cn (g 1) := Nat.two_pow_pos _
  exact Good_eq hn h h' (by omega)
theorem bT {lp : Nat} {M : Mem} {g : Nat → Int32} (hR : RC M 31 g) : ∃ M', fxX9_bestOfThought (some 0) (hp lp M) = some (nI (bV g), hp lp M') ∧ bV g ≤ 2000000 ∧ ∀ z, z ≠ 78 → z ≠ 83 → z ≠ 84 → z ≠ 85 → M' z = M z := by
  obtain ⟨hn, en⟩ := hR.2.2.2.2.1.n
  obtain ⟨M1, M2, p1, p2, p3, p4, p5, p6⟩ := tab_c (lp := lp) gu31 hR
  have hp10 : 2 ^ cn (g 1) ≤ 1024 := (Nat.pow_le_pow_right (by decide) hn : 2 ^ cn (g 1) ≤ 2 ^ 10)
  have hpos : 0 < 2 ^ cn (g 1) := Nat.two_pow_pos _
  have hb := bV_eq hn (Good_H hn p3)
  have hv := Tb_v (S := 2 ^ cn (g 1) - 1) p3 (by omega) (by omega)
  have hb : cn (M2 85 (2 ^ cn (g 1) - 1)) = bV g := hb
  rw [hb] at hv
  have e31 : M2 31 1 = nI (cn (g 1)) := by rw [p6 31 (by decide) (by decide) (by decide) (by decide), hR.1.2.1]; exact en
  refine ⟨M2, ?_, by omega, p6⟩
  simp (disch := omega) only [fxX9_bestOfThought, am_gd_t, am_lt_e, am_bd_s, bi_0, bi_bz, bz0, bz1, nz2, nz10, nz100, hp_gi, hp_si, ↓reduceIte, if_true, if_false, Bool.true_eq_false, Bool.false_eq_true, eq_self, reduceCtorEq, zo0, zp0_0, zp0_1, zp0_2, zp0_4, zp0_5, zp0_6, zp0_7, zp0_8, zp0_9, zp0_10, zo1, zp1_0, zp1_5, zp1_6, zp1_9, zo16, zp16_0, zp16_5, zp16_6, zp16_9, zo31, zp31_0, zp31_5, zp31_6, zp31_9, zo46, zp46_0, zp46_1, zp46_2, zo79, zp79_0, zo83, zp83_0, zp83_1, zp83_2, zo87, zp87_0, zp87_1, zo121, zp121_0, zp121_1, zp121_2, zp121_4, zp121_5, zp121_6, zp121_7, zp121_8, zp121_16, zp121_17, zp121_18, zp121_21, zp121_23, zp121_24, zp121_25, zp121_26, zp121_27, zp121_28, zp121_29, zp121_30, zp121_31, zp121_32, zp121_33, zp121_34, zp79_2, zx2, zx13, zx14, zx15, zx17, zx28, zx29, zx30, zx32, zx43, zx44, zx45, zx47, zx78, zx80, zx84, zx85, zx86, zx88, zx89, zx90, zx99, zx120, zx122, zx123, zx124, zx125, zx126, zx127, zx128, zx129, zx130, zx131, zx132, zx133, zx134, zx135, zx136, zx137, zx138, zx139, zx140, zx141, zx142, zx143, zx144, zx145, zg2, zg17, zg32, zgo3, zgo18, zgo33, zl47, zlo, zlp, zlx, zs90, zso, zsp, zsx, zt99, zto, ztp1, ztp2, ztgo, ztso, ztsp, ztsx, zc0, zi0, zc1, zi1, zc2, zi2, zc3, zi3, zc4, zi4, zc5, zi5, p1, p2, q_allG gu31 e31 hn, q_vos, hv.1]
theorem bA {lp : Nat} {M0 M : Mem} (hm : MO M0 (M 122)) : ∃ M', fxX10_bestOfAll (some 121) (hp lp M) = some (nI (bV (M 122)), hp lp M') ∧ ∀ z, z ≠ 125 → z ≠ 126 → z ≠ 135 → z ≠ 136 → M' z = M z := by
  obtain ⟨hn, en⟩ := hm.1.n
  obtain ⟨M3, s1, s2, s3, s4⟩ := q_findBests (lp := lp) hm
  have hp10 : 2 ^ cn (M 122 1) ≤ 1024 := (Nat.pow_le_pow_right (by decide) hn : 2 ^ cn (M 122 1) ≤ 2 ^ 10)
  have hpos : 0 < 2 ^ cn (M 122 1) := Nat.two_pow_pos _
  have hb : cn (M3 126 (2 ^ cn (M 122 1) - 1)) = bV (M 122) := bV_eq hn (Good_L hn s3)
  have hv := Tm_v (S := 2 ^ cn (M 122 1) - 1) s3 (by omega) (by omega)
  rw [hb] at hv
  have en3 : M3 122 1 = nI (cn (M 122 1)) := by rw [s4 122 (by decide) (by decide) (by decide) (by decide)]; exact en
  refine ⟨M3, ?_, s4⟩
  simp (disch := omega) only [fxX10_bestOfAll, am_gd_t, am_lt_e, am_bd_s, bi_0, bi_bz, bz0, bz1, nz2, nz10, nz100, hp_gi, hp_si, ↓reduceIte, if_true, if_false, Bool.true_eq_false, Bool.false_eq_true, eq_self, reduceCtorEq, zo0, zp0_0, zp0_1, zp0_2, zp0_4, zp0_5, zp0_6, zp0_7, zp0_8, zp0_9, zp0_10, zo1, zp1_0, zp1_5, zp1_6, zp1_9, zo16, zp16_0, zp16_5, zp16_6, zp16_9, zo31, zp31_0, zp31_5, zp31_6, zp31_9, zo46, zp46_0, zp46_1, zp46_2, zo79, zp79_0, zo83, zp83_0, zp83_1, zp83_2, zo87, zp87_0, zp87_1, zo121, zp121_0, zp121_1, zp121_2, zp121_4, zp121_5, zp121_6, zp121_7, zp121_8, zp121_16, zp121_17, zp121_18, zp121_21, zp121_23, zp121_24, zp121_25, zp121_26, zp121_27, zp121_28, zp121_29, zp121_30, zp121_31, zp121_32, zp121_33, zp121_34, zp79_2, zx2, zx13, zx14, zx15, zx17, zx28, zx29, zx30, zx32, zx43, zx44, zx45, zx47, zx78, zx80, zx84, zx85, zx86, zx88, zx89, zx90, zx99, zx120, zx122, zx123, zx124, zx125, zx126, zx127, zx128, zx129, zx130, zx131, zx132, zx133, zx134, zx135, zx136, zx137, zx138, zx139, zx140, zx141, zx142, zx143, zx144, zx145, zg2, zg17, zg32, zgo3, zgo18, zgo33, zl47, zlo, zlp, zlx, zs90, zso, zsp, zsx, zt99, zto, ztp1, ztp2, ztgo, ztso, ztsp, ztsx, zc0, zi0, zc1, zi1, zc2, zi2, zc3, zi3, zc4, zi4, zc5, zi5, zin, zcl, nI_1, Bool.and_self, Bool.true_and, Bool.and_true, s1, q_all en3 hn, hv.1]
theorem q_thinks {lp : Nat} (M : Mem) : ∃ M', fxX10_thinks (some 121) (hp lp M) = some ((), hp lp M') ∧ (∀ j, j < 76 → M' 127 j = M 122 j) ∧ ∀ z, z ≠ 127 → M' z = M z := by
  have L : ∀ k i fuel (M1 : Mem), i + k = 76 → k < fuel → (∀ j, j < i → M1 127 j = M 122 j) → (∀ z, z ≠ 127 → M1 z = M z) → ∃ M', fxX10_thinks_b2 fuel (some 121) (nI i) (hp lp M1) = some ((), hp lp M') ∧ (∀ j, j < 76 → M' 127 j = M 122 j) ∧ ∀ z, z ≠ 127 → M' z = M z := by
    intro k
    induction k with
    | zero =>
      intro i fuel M1 hi hf h1 h2
      obtain ⟨fuel, rfl⟩ : ∃ f, fuel = f + 1 := ⟨fuel - 1, by omega⟩
      obtain rfl : i = 76 := by omega
      refine ⟨M1, ?_, h1, h2⟩
      simp only [fxX10_thinks_b2, show ((76 : Int32) ≤ nI 76) = True from by decide, ↓reduceIte, if_true, if_false, Bool.true_eq_false, Bool.false_eq_true, eq_self, reduceCtorEq]
    | succ k ih =>
      intro i fuel M1 hi hf h1 h2
      obtain ⟨fuel, rfl⟩ : ∃ f, fuel = f + 1 := ⟨fuel - 1, by omega⟩
      obtain ⟨M', q1, q2⟩ := ih (i + 1) fuel (am_up M1 127 i (M1 122 i)) (by omega) (by omega) (fun j hj => by
        rw [up_row]
        by_cases q : j = i
        · subst q; rw [up1_eq, h2 122 (by decide)]
        · rw [up1_ne q]; exact h1 j (by omega)) (fun z hz => by rw [am_up_ne hz, h2 z hz])
      refine ⟨M', ?_, q2⟩
      have h3 : ((76 : Int32) ≤ nI i) = False := zle (n := 76) (by omega) (by decide)
      simp (disch := omega) only [fxX10_thinks_b2, h3, am_gd_t, am_lt_e, am_bd_s, bi_0, bi_bz, bz0, bz1, nz2, nz10, nz100, hp_gi, hp_si, ↓reduceIte, if_true, if_false, Bool.true_eq_false, Bool.false_eq_true, eq_self, reduceCtorEq, zo0, zp0_0, zp0_1, zp0_2, zp0_4, zp0_5, zp0_6, zp0_7, zp0_8, zp0_9, zp0_10, zo1, zp1_0, zp1_5, zp1_6, zp1_9, zo16, zp16_0, zp16_5, zp16_6, zp16_9, zo31, zp31_0, zp31_5, zp31_6, zp31_9, zo46, zp46_0, zp46_1, zp46_2, zo79, zp79_0, zo83, zp83_0, zp83_1, zp83_2, zo87, zp87_0, zp87_1, zo121, zp121_0, zp121_1, zp121_2, zp121_4, zp121_5, zp121_6, zp121_7, zp121_8, zp121_16, zp121_17, zp121_18, zp121_21, zp121_23, zp121_24, zp121_25, zp121_26, zp121_27, zp121_28, zp121_29, zp121_30, zp121_31, zp121_32, zp121_33, zp121_34, zp79_2, zx2, zx13, zx14, zx15, zx17, zx28, zx29, zx30, zx32, zx43, zx44, zx45, zx47, zx78, zx80, zx84, zx85, zx86, zx88, zx89, zx90, zx99, zx120, zx122, zx123, zx124, zx125, zx126, zx127, zx128, zx129, zx130, zx131, zx132, zx133, zx134, zx135, zx136, zx137, zx138, zx139, zx140, zx141, zx142, zx143, zx144, zx145, zg2, zg17, zg32, zgo3, zgo18, zgo33, zl47, zlo, zlp, zlx, zs90, zso, zsp, zsx, zt99, zto, ztp1, ztp2, ztgo, ztso, ztsp, ztsx, zc0, zi0, zc1, zi1, zc2, zi2, zc3, zi3, zc4, zi4, zc5, zi5, zin, zcl, nI_1, Bool.and_self, Bool.true_and, Bool.and_true]
      exact q1
  obtain ⟨M', q1, q2⟩ := L 76 0 am_F M (by omega) (by unfold am_F; omega) (fun j hj => by omega) (fun _ _ => rfl)
  refine ⟨M', ?_, q2⟩
  simp only [fxX10_thinks, am_gd_t, am_lt_e, am_bd_s, bi_0, bi_bz, bz0, bz1, nz2, nz10, nz100, hp_gi, hp_si]
  exact q1
theorem q_putsBack {lp : Nat} (M : Mem) : ∃ M', fxX10_putsBack (some 121) (hp lp M) = some ((), hp lp M') ∧ (∀ j, M' 122 j = if j < 76 then M 127 j else M 122 j) ∧ ∀ z, z ≠ 122 → M' z = M z := by
  have L : ∀ k i fuel (M1 : Mem), i + k = 76 → k < fuel → (∀ j, M1 122 j = if j < i then M 127 j else M 122 j) → (∀ z, z ≠ 122 → M1 z = M z) → ∃ M', fxX10_putsBack_b2 fuel (some 121) (nI i) (hp lp M1) = some ((), hp lp M') ∧ (∀ j, M' 122 j = if j < 76 then M 127 j else M 122 j) ∧ ∀ z, z ≠ 122 → M' z = M z := by
    intro k
    induction k with
    | zero =>
      intro i fuel M1 hi hf h1 h2
      obtain ⟨fuel, rfl⟩ : ∃ f, fuel = f + 1 := ⟨fuel - 1, by omega⟩
      obtain rfl : i = 76 := by omega
      refine ⟨M1, ?_, h1, h2⟩
      simp only [fxX10_putsBack_b2, show ((76 : Int32) ≤ nI 76) = True from by decide, ↓reduceIte, if_true, if_false, Bool.true_eq_false, Bool.false_eq_true, eq_self, reduceCtorEq]
    | succ k ih =>
      intro i fuel M1 hi hf h1 h2
      obtain ⟨fuel, rfl⟩ : ∃ f, fuel = f + 1 := ⟨fuel - 1, by omega⟩
      obtain ⟨M', q1, q2⟩ := ih (i + 1) fuel (am_up M1 122 i (M1 127 i)) (by omega) (by omega) (fun j => by
        rw [up_row]
        by_cases q : j = i
        · subst q; rw [up1_eq, if_pos (by omega), h2 127 (by decide)]
        · rw [up1_ne q, h1 j]
          by_cases q2 : j < i
          · rw [if_pos q2, if_pos (by omega)]
          · rw [if_neg q2, if_neg (by omega)]) (fun z hz => by rw [am_up_ne hz, h2 z hz])
      refine ⟨M', ?_, q2⟩
      have h3 : ((76 : Int32) ≤ nI i) = False := zle (n := 76) (by omega) (by decide)
      simp (disch := omega) only [fxX10_putsBack_b2, h3, am_gd_t, am_lt_e, am_bd_s, bi_0, bi_bz, bz0, bz1, nz2, nz10, nz100, hp_gi, hp_si, ↓reduceIte, if_true, if_false, Bool.true_eq_false, Bool.false_eq_true, eq_self, reduceCtorEq, zo0, zp0_0, zp0_1, zp0_2, zp0_4, zp0_5, zp0_6, zp0_7, zp0_8, zp0_9, zp0_10, zo1, zp1_0, zp1_5, zp1_6, zp1_9, zo16, zp16_0, zp16_5, zp16_6, zp16_9, zo31, zp31_0, zp31_5, zp31_6, zp31_9, zo46, zp46_0, zp46_1, zp46_2, zo79, zp79_0, zo83, zp83_0, zp83_1, zp83_2, zo87, zp87_0, zp87_1, zo121, zp121_0, zp121_1, zp121_2, zp121_4, zp121_5, zp121_6, zp121_7, zp121_8, zp121_16, zp121_17, zp121_18, zp121_21, zp121_23, zp121_24, zp121_25, zp121_26, zp121_27, zp121_28, zp121_29, zp121_30, zp121_31, zp121_32, zp121_33, zp121_34, zp79_2, zx2, zx13, zx14, zx15, zx17, zx28, zx29, zx30, zx32, zx43, zx44, zx45, zx47, zx78, zx80, zx84, zx85, zx86, zx88, zx89, zx90, zx99, zx120, zx122, zx123, zx124, zx125, zx126, zx127, zx128, zx129, zx130, zx131, zx132, zx133, zx134, zx135, zx136, zx137, zx138, zx139, zx140, zx141, zx142, zx143, zx144, zx145, zg2, zg17, zg32, zgo3, zgo18, zgo33, zl47, zlo, zlp, zlx, zs90, zso, zsp, zsx, zt99, zto, ztp1, ztp2, ztgo, ztso, ztsp, ztsx, zc0, zi0, zc1, zi1, zc2, zi2, zc3, zi3, zc4, zi4, zc5, zi5, zin, zcl, nI_1, Bool.and_self, Bool.true_and, Bool.and_true]
      exact q1
  obtain ⟨M', q1, q2⟩ := L 76 0 am_F M (by omega) (by unfold am_F; omega) (fun j => by rw [if_neg (by omega)]) (fun _ _ => rfl)
  refine ⟨M', ?_, q2⟩
  simp only [fxX10_putsBack, am_gd_t, am_lt_e, am_bd_s, bi_0, bi_bz, bz0, bz1, nz2, nz10, nz100, hp_gi, hp_si]
  exact q1
/-- an array that has lived is one that the reference can work on -/
theorem MO_live {M0 : Mem} {g : Nat → Int32} {home : Int32} {d m : Nat} (hm : MO M0 g) (em : g 2 = nI m) (hd : m + d ≤ 20000) : MO M0 (liveG home d g) := by
  obtain ⟨hv, hT⟩ := hm
  have hn := hv.n.1
  have e := fun (z : Nat) (h0 : z ≠ 0) (h2 : z ≠ 2) (h : z < 16 ∨ 76 ≤ z) => liveG_lo (home := home) d g z hn h0 h2 h
  obtain ⟨v1, v2, v3, v4, v5⟩ := hv
  refine ⟨⟨?_, ⟨m + d, hd, liveG_2 _ _ _ hn em⟩, ?_, ?_, ?_⟩, fun t ht => ?_⟩
  · rw [e 1 (by decide) (by decide) (by decide)]; exact v1
  · rw [e 3 (by decide) (by decide) (by decide)]; exact v3
  · rw [e 4 (by decide) (by decide) (by decide)]; exact v4
  · rw [e 5 (by decide) (by decide) (by decide)]; exact v5
  · rw [e 5 (by decide) (by decide) (by decide)] at ht
    exact TR_g (fun k hk => e k (by omega) (by omega) (by omega)) (hT t ht)
/-- what the reference thinks, and then puts back -/
theorem back_eq {g g2 b : Nat → Int32} {home : Int32} {d : Nat} (hn : cn (g 1) ≤ 10) (hb : ∀ j, j < 76 → b j = g j) (h : ∀ j, g2 j = if j < 76 then b j else liveG home d g j) : g2 = g := by
  funext j
  rw [h j]
  by_cases q : j < 76
  · rw [if_pos q, hb j q]
  · rw [if_neg q]; exact liveG_lo _ _ _ hn (by omega) (by omega) (by omega)
theorem live_c {lp : Nat} {M : Mem} {g : Nat → Int32} {home : Int32} {m d : Nat} (hR : RC M 1 g) (em : g 2 = nI m) (hm : m ≤ 9999) (hd : d ≤ 100) : ∃ M1 M2, fxX2_takeAfter (some 31) (some 1) (hp lp M) = some ((), hp lp M1) ∧ fxX2_live (some 31) (nI d) home (some 46) (hp lp M1) = some ((), hp lp M2) ∧ RC M2 31 (liveG home d g) ∧ ∀ z, ¬ (31 ≤ z ∧ z ≤ 45) → z ≠ 78 → M2 z = M z := by
  obtain ⟨M1, p1, p2, p3⟩ := q_take (lp := lp) gu31 gu1 (by decide) hR
  obtain ⟨M2, q1, q2, q3⟩ := q_live (lp := lp) (home := home) gu31 d M1 g p2 (by rw [em, cn_nI (by omega)]; omega) (by omega)
  exact ⟨M1, M2, p1, q1, q2, fun z z1 z2 => by rw [q3 z (by omega) z2, p3 z (by omega)]⟩
theorem P_behind (a b : Int32) : Pair (fxX9_behind (some 0) a b) (fxX10_behind (some 121) a b) := by
  intro lp M hI
  cases ha : iw a 0 100 with
  | false => exact ⟨-1000000001, lp, M, M, by simp only [fxX9_behind, am_gd_t, am_lt_e, am_bd_s, bi_0, bi_bz, bz0, bz1, nz2, nz10, nz100, hp_gi, hp_si, ob_0, ob_1, pt00, pt10, ↓reduceIte, if_true, if_false, Bool.true_eq_false, Bool.false_eq_true, eq_self, reduceCtorEq, q_within, ha], by simp only [fxX10_behind, am_gd_t, am_lt_e, am_bd_s, bi_0, bi_bz, bz0, bz1, nz2, nz10, nz100, hp_gi, hp_si, ob_M, pm0, pm0i, ↓reduceIte, if_true, if_false, Bool.true_eq_false, Bool.false_eq_true, eq_self, reduceCtorEq, q_in, ha], hI⟩
  | true =>
  cases hb : iw b 0 2 with
  | false => exact ⟨-1000000001, lp, M, M, by simp only [fxX9_behind, am_gd_t, am_lt_e, am_bd_s, bi_0, bi_bz, bz0, bz1, nz2, nz10, nz100, hp_gi, hp_si, ob_0, ob_1, pt00, pt10, ↓reduceIte, if_true, if_false, Bool.true_eq_false, Bool.false_eq_true, eq_self, reduceCtorEq, q_within, ha, hb], by simp only [fxX10_behind, am_gd_t, am_lt_e, am_bd_s, bi_0, bi_bz, bz0, bz1, nz2, nz10, nz100, hp_gi, hp_si, ob_M, pm0, pm0i, ↓reduceIte, if_true, if_false, Bool.true_eq_false, Bool.false_eq_true, eq_self, reduceCtorEq, q_in, ha, hb], hI⟩
  | true =>
  obtain ⟨d, hd, rfl⟩ := iw_lit 100 (b := 100) rfl (by decide) ha
  obtain ⟨w, hw, rfl⟩ := iw_lit 2 (b := 2) rfl (by decide) hb
  have hR := hI.1.1
  obtain ⟨hc, ec⟩ := hR.2.2.2.2.1.n
  obtain ⟨m, hm, em⟩ := hR.2.2.2.2.1.2.1
  have hm9 : m ≤ 9999 := by have := hI.1.2; rw [em, cn_nI (by omega)] at this; exact this
  obtain ⟨M1, M2, p1, p2, p3, p4⟩ := live_c (lp := lp) (home := -1) hR em hm9 hd
  -- the class's heap at the end, whatever is asked
  have fin : ∀ (r : Int32) (Mc : Mem), (∀ z, ¬ (31 ≤ z ∧ z ≤ 45) → z ≠ 78 → z ≠ 83 → z ≠ 84 → z ≠ 85 → Mc z = M z) → fxX9_behind (some 0) (nI d) (nI w) (hp lp M) = some (r, hp lp Mc) → (∀ Mx : Mem, Mx 122 = liveG (-1) d (M 122) → ∃ My, (if nI w = 0 then am_bd (fxX10_bestOfAll (some 121) (hp lp Mx)) (fun r14 h15 => fxX10_behind_b60 (some 121) r14 h15) else if nI w = 1 then am_bd (fxX10_lostMany (some 121) (hp lp Mx)) (fun r11 h12 => fxX10_behind_b60 (some 121) r11 h12) else am_bd (fxX10_wearAll (some 121) (hp lp Mx)) (fun r9 h10 => fxX10_behind_b60 (some 121) r9 h10)) = fxX10_behind_b60 (some 121) r (hp lp My) ∧ ∀ z, z ≠ 125 → z ≠ 126 → z ≠ 135 → z ≠ 136 → My z = Mx z) → ∃ r lp1 M1 M2, fxX9_behind (some 0) (nI d) (nI w) (hp lp M) = some (r, hp lp1 M1) ∧ fxX10_behind (some 121) (nI d) (nI w) (hp lp1 M1) = some (r, hp lp1 M2) ∧ Inv lp1 M2 := by
    intro r Mc hMc hcl href
    obtain ⟨Ma, u1, u2, u3⟩ := q_thinks (lp := lp) Mc
    have e122 : Ma 122 = M 122 := by rw [u3 122 (by decide), hMc 122 (by omega) (by decide) (by decide) (by decide) (by decide)]
    have em122 : Mc 122 = M 122 := hMc 122 (by omega) (by decide) (by decide) (by decide) (by decide)
    obtain ⟨Mb, v1, v2, v3⟩ := q_goesOn (lp := lp) (M0 := M) (home := -1) d (by omega) Ma (by rw [e122]; exact ⟨hR.2.2.2.2.1, hR.2.2.2.1.1⟩) (by rw [e122, em, cn_nI (by omega)]; omega)
    rw [e122] at v1 v2
    obtain ⟨My, w1, w2⟩ := href Mb v2
    obtain ⟨Mz, x1, x2, x3⟩ := q_putsBack (lp := lp) My
    have z122 : Mz 122 = M 122 := by
      refine back_eq (home := -1) (d := d) (b := My 127) hc (fun j hj => ?_) (fun j => ?_)
      · rw [w2 127 (by decide) (by decide) (by decide) (by decide), v3 127 (by decide) (by decide) (by decide), u2 j hj, em122]
      · rw [x2 j, w2 122 (by decide) (by decide) (by decide) (by decide), v2]
    have er : ∀ z, ¬ (31 ≤ z ∧ z ≤ 45) → z ≠ 78 → z ≠ 83 → z ≠ 84 → z ≠ 85 → z ≠ 122 → z ≠ 125 → z ≠ 126 → z ≠ 127 → z ≠ 135 → z ≠ 136 → Mz z = M z := fun z z1 z2 z3 z4 z5 z6 z7 z8 z9 z10 z11 => by rw [x3 z z6, w2 z z7 z8 z10 z11, v3 z z6 z10 z11, u3 z z9, hMc z z1 z2 z3 z4 z5]
    have e121 : Mz 121 = M 121 := er 121 (by omega) (by decide) (by decide) (by decide) (by decide) (by decide) (by decide) (by decide) (by decide) (by decide) (by decide)
    refine ⟨r, lp, Mc, Mz, hcl, ?_, hI.scr (fun k hk hk2 => ?_) (by rw [e121]) (by rw [e121]) (by rw [e121])⟩
    · simp only [fxX10_behind, am_gd_t, am_lt_e, am_bd_s, bi_0, bi_bz, bz0, bz1, nz2, nz10, nz100, hp_gi, hp_si, ↓reduceIte, if_true, if_false, Bool.true_eq_false, Bool.false_eq_true, eq_self, reduceCtorEq, zo0, zp0_0, zp0_1, zp0_2, zp0_4, zp0_5, zp0_6, zp0_7, zp0_8, zp0_9, zp0_10, zo1, zp1_0, zp1_5, zp1_6, zp1_9, zo16, zp16_0, zp16_5, zp16_6, zp16_9, zo31, zp31_0, zp31_5, zp31_6, zp31_9, zo46, zp46_0, zp46_1, zp46_2, zo79, zp79_0, zo83, zp83_0, zp83_1, zp83_2, zo87, zp87_0, zp87_1, zo121, zp121_0, zp121_1, zp121_2, zp121_4, zp121_5, zp121_6, zp121_7, zp121_8, zp121_16, zp121_17, zp121_18, zp121_21, zp121_23, zp121_24, zp121_25, zp121_26, zp121_27, zp121_28, zp121_29, zp121_30, zp121_31, zp121_32, zp121_33, zp121_34, zp79_2, zx2, zx13, zx14, zx15, zx17, zx28, zx29, zx30, zx32, zx43, zx44, zx45, zx47, zx78, zx80, zx84, zx85, zx86, zx88, zx89, zx90, zx99, zx120, zx122, zx123, zx124, zx125, zx126, zx127, zx128, zx129, zx130, zx131, zx132, zx133, zx134, zx135, zx136, zx137, zx138, zx139, zx140, zx141, zx142, zx143, zx144, zx145, zg2, zg17, zg32, zgo3, zgo18, zgo33, zl47, zlo, zlp, zlx, zs90, zso, zsp, zsx, zt99, zto, ztp1, ztp2, ztgo, ztso, ztsp, ztsx, zc0, zi0, zc1, zi1, zc2, zi2, zc3, zi3, zc4, zi4, zc5, zi5, q_in, ha, hb, u1, v1]
      refine w1.trans ?_
      simp only [fxX10_behind_b60, am_gd_t, am_lt_e, am_bd_s, bi_0, bi_bz, bz0, bz1, nz2, nz10, nz100, hp_gi, hp_si, ↓reduceIte, if_true, if_false, Bool.true_eq_false, Bool.false_eq_true, eq_self, reduceCtorEq, zo0, zp0_0, zp0_1, zp0_2, zp0_4, zp0_5, zp0_6, zp0_7, zp0_8, zp0_9, zp0_10, zo1, zp1_0, zp1_5, zp1_6, zp1_9, zo16, zp16_0, zp16_5, zp16_6, zp16_9, zo31, zp31_0, zp31_5, zp31_6, zp31_9, zo46, zp46_0, zp46_1, zp46_2, zo79, zp79_0, zo83, zp83_0, zp83_1, zp83_2, zo87, zp87_0, zp87_1, zo121, zp121_0, zp121_1, zp121_2, zp121_4, zp121_5, zp121_6, zp121_7, zp121_8, zp121_16, zp121_17, zp121_18, zp121_21, zp121_23, zp121_24, zp121_25, zp121_26, zp121_27, zp121_28, zp121_29, zp121_30, zp121_31, zp121_32, zp121_33, zp121_34, zp79_2, zx2, zx13, zx14, zx15, zx17, zx28, zx29, zx30, zx32, zx43, zx44, zx45, zx47, zx78, zx80, zx84, zx85, zx86, zx88, zx89, zx90, zx99, zx120, zx122, zx123, zx124, zx125, zx126, zx127, zx128, zx129, zx130, zx131, zx132, zx133, zx134, zx135, zx136, zx137, zx138, zx139, zx140, zx141, zx142, zx143, zx144, zx145, zg2, zg17, zg32, zgo3, zgo18, zgo33, zl47, zlo, zlp, zlx, zs90, zso, zsp, zsx, zt99, zto, ztp1, ztp2, ztgo, ztso, ztsp, ztsx, zc0, zi0, zc1, zi1, zc2, zi2, zc3, zi3, zc4, zi4, zc5, zi5, x1]
    · by_cases h122 : k = 122
      · subst h122; exact z122
      · unfold scrP at hk
        exact er k (by omega) (by omega) (by omega) (by omega) (by omega) h122 (by omega) (by omega) (by omega) (by omega) (by omega)
  have hmo : ∀ Mx : Mem, Mx 122 = liveG (-1) d (M 122) → MO M (Mx 122) := fun Mx e => by
    rw [e]; exact MO_live ⟨hR.2.2.2.2.1, hR.2.2.2.1.1⟩ em (by omega)
  rcases (show w = 0 ∨ w = 1 ∨ w = 2 by omega) with rfl | rfl | rfl
  · obtain ⟨M3, b1, b2, b3⟩ := bT (lp := lp) p3
    refine fin (nI (bV (liveG (-1) d (M 122)))) M3 (fun z z1 z2 z3 z4 z5 => by rw [b3 z z2 z3 z4 z5, p4 z z1 z2]) ?_ (fun Mx e => ?_)
    · simp only [fxX9_behind, am_gd_t, am_lt_e, am_bd_s, bi_0, bi_bz, bz0, bz1, nz2, nz10, nz100, hp_gi, hp_si, ↓reduceIte, if_true, if_false, Bool.true_eq_false, Bool.false_eq_true, eq_self, reduceCtorEq, zo0, zp0_0, zp0_1, zp0_2, zp0_4, zp0_5, zp0_6, zp0_7, zp0_8, zp0_9, zp0_10, zo1, zp1_0, zp1_5, zp1_6, zp1_9, zo16, zp16_0, zp16_5, zp16_6, zp16_9, zo31, zp31_0, zp31_5, zp31_6, zp31_9, zo46, zp46_0, zp46_1, zp46_2, zo79, zp79_0, zo83, zp83_0, zp83_1, zp83_2, zo87, zp87_0, zp87_1, zo121, zp121_0, zp121_1, zp121_2, zp121_4, zp121_5, zp121_6, zp121_7, zp121_8, zp121_16, zp121_17, zp121_18, zp121_21, zp121_23, zp121_24, zp121_25, zp121_26, zp121_27, zp121_28, zp121_29, zp121_30, zp121_31, zp121_32, zp121_33, zp121_34, zp79_2, zx2, zx13, zx14, zx15, zx17, zx28, zx29, zx30, zx32, zx43, zx44, zx45, zx47, zx78, zx80, zx84, zx85, zx86, zx88, zx89, zx90, zx99, zx120, zx122, zx123, zx124, zx125, zx126, zx127, zx128, zx129, zx130, zx131, zx132, zx133, zx134, zx135, zx136, zx137, zx138, zx139, zx140, zx141, zx142, zx143, zx144, zx145, zg2, zg17, zg32, zgo3, zgo18, zgo33, zl47, zlo, zlp, zlx, zs90, zso, zsp, zsx, zt99, zto, ztp1, ztp2, ztgo, ztso, ztsp, ztsx, zc0, zi0, zc1, zi1, zc2, zi2, zc3, zi3, zc4, zi4, zc5, zi5, q_within, ha, hb, p1, p2, show (nI 0 = 0) = True from by decide, b1]
    · obtain ⟨My, y1, y2⟩ := bA (lp := lp) (hmo Mx e)
      rw [e] at y1
      refine ⟨My, ?_, y2⟩
      simp only [show (nI 0 = 0) = True from by decide, ↓reduceIte, if_true, if_false, Bool.true_eq_false, Bool.false_eq_true, eq_self, reduceCtorEq, y1, am_bd_s]
  · refine fin (lostS (liveG (-1) d (M 122)) (cn (liveG (-1) d (M 122) 1))) M2 (fun z z1 z2 z3 z4 z5 => p4 z z1 z2) ?_ (fun Mx e => ⟨Mx, ?_, fun _ _ _ _ _ => rfl⟩)
    · simp only [fxX9_behind, am_gd_t, am_lt_e, am_bd_s, bi_0, bi_bz, bz0, bz1, nz2, nz10, nz100, hp_gi, hp_si, ↓reduceIte, if_true, if_false, Bool.true_eq_false, Bool.false_eq_true, eq_self, reduceCtorEq, zo0, zp0_0, zp0_1, zp0_2, zp0_4, zp0_5, zp0_6, zp0_7, zp0_8, zp0_9, zp0_10, zo1, zp1_0, zp1_5, zp1_6, zp1_9, zo16, zp16_0, zp16_5, zp16_6, zp16_9, zo31, zp31_0, zp31_5, zp31_6, zp31_9, zo46, zp46_0, zp46_1, zp46_2, zo79, zp79_0, zo83, zp83_0, zp83_1, zp83_2, zo87, zp87_0, zp87_1, zo121, zp121_0, zp121_1, zp121_2, zp121_4, zp121_5, zp121_6, zp121_7, zp121_8, zp121_16, zp121_17, zp121_18, zp121_21, zp121_23, zp121_24, zp121_25, zp121_26, zp121_27, zp121_28, zp121_29, zp121_30, zp121_31, zp121_32, zp121_33, zp121_34, zp79_2, zx2, zx13, zx14, zx15, zx17, zx28, zx29, zx30, zx32, zx43, zx44, zx45, zx47, zx78, zx80, zx84, zx85, zx86, zx88, zx89, zx90, zx99, zx120, zx122, zx123, zx124, zx125, zx126, zx127, zx128, zx129, zx130, zx131, zx132, zx133, zx134, zx135, zx136, zx137, zx138, zx139, zx140, zx141, zx142, zx143, zx144, zx145, zg2, zg17, zg32, zgo3, zgo18, zgo33, zl47, zlo, zlp, zlx, zs90, zso, zsp, zsx, zt99, zto, ztp1, ztp2, ztgo, ztso, ztsp, ztsx, zc0, zi0, zc1, zi1, zc2, zi2, zc3, zi3, zc4, zi4, zc5, zi5, q_within, ha, hb, p1, p2, show (nI 1 = 0) = False from by decide, show (nI 1 = 1) = True from by decide, lost_c gu31 p3]
    · have := lost_m (lp := lp) (hmo Mx e).1
      rw [e] at this
      simp only [show (nI 1 = 0) = False from by decide, show (nI 1 = 1) = True from by decide, ↓reduceIte, if_true, if_false, Bool.true_eq_false, Bool.false_eq_true, eq_self, reduceCtorEq, this, am_bd_s]
  · refine fin (wearS (liveG (-1) d (M 122)) (cn (liveG (-1) d (M 122) 1))) M2 (fun z z1 z2 z3 z4 z5 => p4 z z1 z2) ?_ (fun Mx e => ⟨Mx, ?_, fun _ _ _ _ _ => rfl⟩)
    · simp only [fxX9_behind, am_gd_t, am_lt_e, am_bd_s, bi_0, bi_bz, bz0, bz1, nz2, nz10, nz100, hp_gi, hp_si, ↓reduceIte, if_true, if_false, Bool.true_eq_false, Bool.false_eq_true, eq_self, reduceCtorEq, zo0, zp0_0, zp0_1, zp0_2, zp0_4, zp0_5, zp0_6, zp0_7, zp0_8, zp0_9, zp0_10, zo1, zp1_0, zp1_5, zp1_6, zp1_9, zo16, zp16_0, zp16_5, zp16_6, zp16_9, zo31, zp31_0, zp31_5, zp31_6, zp31_9, zo46, zp46_0, zp46_1, zp46_2, zo79, zp79_0, zo83, zp83_0, zp83_1, zp83_2, zo87, zp87_0, zp87_1, zo121, zp121_0, zp121_1, zp121_2, zp121_4, zp121_5, zp121_6, zp121_7, zp121_8, zp121_16, zp121_17, zp121_18, zp121_21, zp121_23, zp121_24, zp121_25, zp121_26, zp121_27, zp121_28, zp121_29, zp121_30, zp121_31, zp121_32, zp121_33, zp121_34, zp79_2, zx2, zx13, zx14, zx15, zx17, zx28, zx29, zx30, zx32, zx43, zx44, zx45, zx47, zx78, zx80, zx84, zx85, zx86, zx88, zx89, zx90, zx99, zx120, zx122, zx123, zx124, zx125, zx126, zx127, zx128, zx129, zx130, zx131, zx132, zx133, zx134, zx135, zx136, zx137, zx138, zx139, zx140, zx141, zx142, zx143, zx144, zx145, zg2, zg17, zg32, zgo3, zgo18, zgo33, zl47, zlo, zlp, zlx, zs90, zso, zsp, zsx, zt99, zto, ztp1, ztp2, ztgo, ztso, ztsp, ztsx, zc0, zi0, zc1, zi1, zc2, zi2, zc3, zi3, zc4, zi4, zc5, zi5, q_within, ha, hb, p1, p2, show (nI 2 = 0) = False from by decide, show (nI 2 = 1) = False from by decide, wear_c gu31 p3]
    · have := wear_m (lp := lp) (hmo Mx e).1
      rw [e] at this
      simp only [show (nI 2 = 0) = False from by decide, show (nI 2 = 1) = False from by decide, ↓reduceIte, if_true, if_false, Bool.true_eq_false, Bool.false_eq_true, eq_self, reduceCtorEq, this, am_bd_s]
/-- the glove to keep at home -/
noncomputable def khS (g : Nat → Int32) (d : Nat) : Nat → Nat → Int32 → Int32 → Int32
  | 0, _, b, _ => told0S b
  | k + 1, i, b, m => if b < 0 ∨ ¬ nI (bV (liveG (nI i) d g)) ≤ m then khS g d k (i + 1) (nI i) (nI (bV (liveG (nI i) d g))) else khS g d k (i + 1) b m
theorem kh_c {lp d m n : Nat} {g : Nat → Int32} (hn : cn (g 1) = n) (em : g 2 = nI m) (hm : m ≤ 9999) (hd : d ≤ 100) : ∀ k i fuel (M : Mem) (kept gr b mo : Int32), RC M 1 g → i + k = n → k < fuel → ((b = -1 ∧ kept = -1000000005 ∧ gr = -1) ∨ (∃ v w, v < 10 ∧ w ≤ 2000000 ∧ b = nI v ∧ kept = nI v ∧ gr = nI w ∧ mo = nI w)) → ∃ M', fxX9_keepHome_b21 fuel (some 0) (nI d) kept gr (nI i) (hp lp M) = some (khS g d k i b mo, hp lp M') ∧ ∀ z, ¬ (31 ≤ z ∧ z ≤ 45) → z ≠ 78 → z ≠ 83 → z ≠ 84 → z ≠ 85 → M' z = M z := by
  intro k
  induction k with
  | zero =>
    intro i fuel M kept gr b mo hR hi hf hst
    obtain ⟨fuel, rfl⟩ : ∃ f, fuel = f + 1 := ⟨fuel - 1, by omega⟩
    obtain ⟨hn10, en⟩ := hR.2.2.2.2.1.n
    have e1 : M 1 1 = nI i := by rw [hR.1.2.1, en]; congr 1; omega
    refine ⟨M, ?_, fun _ _ _ _ _ _ => rfl⟩
    have hk : khS g d 0 i b mo = kept := by
      unfold khS told0S
      rcases hst with ⟨h1, h2, h3⟩ | ⟨v, w, h1, h2, h3, h4, h5, h6⟩
      · rw [h1, h2]; rfl
      · rw [h3, h4, if_pos (nI_pos' (by omega))]
    rw [hk]
    simp (disch := omega) only [fxX9_keepHome_b21, am_gd_t, am_lt_e, am_bd_s, bi_0, bi_bz, bz0, bz1, nz2, nz10, nz100, hp_gi, hp_si, ↓reduceIte, if_true, if_false, Bool.true_eq_false, Bool.false_eq_true, eq_self, reduceCtorEq, zo0, zp0_0, zp0_1, zp0_2, zp0_4, zp0_5, zp0_6, zp0_7, zp0_8, zp0_9, zp0_10, zo1, zp1_0, zp1_5, zp1_6, zp1_9, zo16, zp16_0, zp16_5, zp16_6, zp16_9, zo31, zp31_0, zp31_5, zp31_6, zp31_9, zo46, zp46_0, zp46_1, zp46_2, zo79, zp79_0, zo83, zp83_0, zp83_1, zp83_2, zo87, zp87_0, zp87_1, zo121, zp121_0, zp121_1, zp121_2, zp121_4, zp121_5, zp121_6, zp121_7, zp121_8, zp121_16, zp121_17, zp121_18, zp121_21, zp121_23, zp121_24, zp121_25, zp121_26, zp121_27, zp121_28, zp121_29, zp121_30, zp121_31, zp121_32, zp121_33, zp121_34, zp79_2, zx2, zx13, zx14, zx15, zx17, zx28, zx29, zx30, zx32, zx43, zx44, zx45, zx47, zx78, zx80, zx84, zx85, zx86, zx88, zx89, zx90, zx99, zx120, zx122, zx123, zx124, zx125, zx126, zx127, zx128, zx129, zx130, zx131, zx132, zx133, zx134, zx135, zx136, zx137, zx138, zx139, zx140, zx141, zx142, zx143, zx144, zx145, zg2, zg17, zg32, zgo3, zgo18, zgo33, zl47, zlo, zlp, zlx, zs90, zso, zsp, zsx, zt99, zto, ztp1, ztp2, ztgo, ztso, ztsp, ztsx, zc0, zi0, zc1, zi1, zc2, zi2, zc3, zi3, zc4, zi4, zc5, zi5, e1, zle']
  | succ k ih =>
    intro i fuel M kept gr b mo hR hi hf hst
    obtain ⟨fuel, rfl⟩ : ∃ f, fuel = f + 1 := ⟨fuel - 1, by omega⟩
    obtain ⟨hn10, en⟩ := hR.2.2.2.2.1.n
    have e1 : M 1 1 = nI n := by rw [hR.1.2.1, en, hn]
    obtain ⟨M1, M2, p1, p2, p3, p4⟩ := live_c (lp := lp) (home := nI i) hR em hm hd
    obtain ⟨M3, b1, b2, b3⟩ := bT (lp := lp) p3
    have er : ∀ z, ¬ (31 ≤ z ∧ z ≤ 45) → z ≠ 78 → z ≠ 83 → z ≠ 84 → z ≠ 85 → M3 z = M z := fun z z1 z2 z3 z4 z5 => by rw [b3 z z2 z3 z4 z5, p4 z z1 z2]
    have hR3 : RC M3 1 g := RC_congr (fun z z1 z2 => er z (by omega) (by omega) (by omega) (by omega) (by omega)) (fun z z1 z2 => er z (by omega) (by omega) (by omega) (by omega) (by omega)) hR
    unfold khS
    generalize hv : bV (liveG (nI i) d g) = v at *
    rcases hst with ⟨h1, h2, h3⟩ | ⟨x, w, h1, h2, h3, h4, h5, h6⟩
    · have hle : (nI v ≤ gr) = False := by
        rw [h3]
        exact eq_false (fun q => by
          have := Int32.le_trans (nI_pos' (n := v) (by omega)) q
          revert this; decide)
      obtain ⟨M', q1, q2⟩ := ih (i + 1) fuel M3 (nI i) (nI v) (nI i) (nI v) hR3 (by omega) (by omega) (Or.inr ⟨i, v, by omega, b2, rfl, rfl, rfl, rfl⟩)
      refine ⟨M', ?_, fun z z1 z2 z3 z4 z5 => by rw [q2 z z1 z2 z3 z4 z5, er z z1 z2 z3 z4 z5]⟩
      rw [if_pos (Or.inl (by rw [h1]; decide))]
      simp (disch := omega) only [fxX9_keepHome_b21, fxX9_keepHome_b76, am_gd_t, am_lt_e, am_bd_s, bi_0, bi_bz, bz0, bz1, nz2, nz10, nz100, hp_gi, hp_si, ↓reduceIte, if_true, if_false, Bool.true_eq_false, Bool.false_eq_true, eq_self, reduceCtorEq, zo0, zp0_0, zp0_1, zp0_2, zp0_4, zp0_5, zp0_6, zp0_7, zp0_8, zp0_9, zp0_10, zo1, zp1_0, zp1_5, zp1_6, zp1_9, zo16, zp16_0, zp16_5, zp16_6, zp16_9, zo31, zp31_0, zp31_5, zp31_6, zp31_9, zo46, zp46_0, zp46_1, zp46_2, zo79, zp79_0, zo83, zp83_0, zp83_1, zp83_2, zo87, zp87_0, zp87_1, zo121, zp121_0, zp121_1, zp121_2, zp121_4, zp121_5, zp121_6, zp121_7, zp121_8, zp121_16, zp121_17, zp121_18, zp121_21, zp121_23, zp121_24, zp121_25, zp121_26, zp121_27, zp121_28, zp121_29, zp121_30, zp121_31, zp121_32, zp121_33, zp121_34, zp79_2, zx2, zx13, zx14, zx15, zx17, zx28, zx29, zx30, zx32, zx43, zx44, zx45, zx47, zx78, zx80, zx84, zx85, zx86, zx88, zx89, zx90, zx99, zx120, zx122, zx123, zx124, zx125, zx126, zx127, zx128, zx129, zx130, zx131, zx132, zx133, zx134, zx135, zx136, zx137, zx138, zx139, zx140, zx141, zx142, zx143, zx144, zx145, zg2, zg17, zg32, zgo3, zgo18, zgo33, zl47, zlo, zlp, zlx, zs90, zso, zsp, zsx, zt99, zto, ztp1, ztp2, ztgo, ztso, ztsp, ztsx, zc0, zi0, zc1, zi1, zc2, zi2, zc3, zi3, zc4, zi4, zc5, zi5, e1, zle, p1, p2, b1, hle, nI_1]
      exact q1
    · by_cases hc : nI v ≤ nI w
      · obtain ⟨M', q1, q2⟩ := ih (i + 1) fuel M3 kept gr b mo hR3 (by omega) (by omega) (Or.inr ⟨x, w, h1, h2, h3, h4, h5, h6⟩)
        refine ⟨M', ?_, fun z z1 z2 z3 z4 z5 => by rw [q2 z z1 z2 z3 z4 z5, er z z1 z2 z3 z4 z5]⟩
        have hle : (nI v ≤ gr) = True := by rw [h5]; exact eq_true hc
        rw [if_neg (by
          rintro (q | q)
          · rw [h3, nlt0 (by omega)] at q; exact q
          · rw [h6] at q; exact q hc)]
        simp (disch := omega) only [fxX9_keepHome_b21, fxX9_keepHome_b76, am_gd_t, am_lt_e, am_bd_s, bi_0, bi_bz, bz0, bz1, nz2, nz10, nz100, hp_gi, hp_si, ↓reduceIte, if_true, if_false, Bool.true_eq_false, Bool.false_eq_true, eq_self, reduceCtorEq, zo0, zp0_0, zp0_1, zp0_2, zp0_4, zp0_5, zp0_6, zp0_7, zp0_8, zp0_9, zp0_10, zo1, zp1_0, zp1_5, zp1_6, zp1_9, zo16, zp16_0, zp16_5, zp16_6, zp16_9, zo31, zp31_0, zp31_5, zp31_6, zp31_9, zo46, zp46_0, zp46_1, zp46_2, zo79, zp79_0, zo83, zp83_0, zp83_1, zp83_2, zo87, zp87_0, zp87_1, zo121, zp121_0, zp121_1, zp121_2, zp121_4, zp121_5, zp121_6, zp121_7, zp121_8, zp121_16, zp121_17, zp121_18, zp121_21, zp121_23, zp121_24, zp121_25, zp121_26, zp121_27, zp121_28, zp121_29, zp121_30, zp121_31, zp121_32, zp121_33, zp121_34, zp79_2, zx2, zx13, zx14, zx15, zx17, zx28, zx29, zx30, zx32, zx43, zx44, zx45, zx47, zx78, zx80, zx84, zx85, zx86, zx88, zx89, zx90, zx99, zx120, zx122, zx123, zx124, zx125, zx126, zx127, zx128, zx129, zx130, zx131, zx132, zx133, zx134, zx135, zx136, zx137, zx138, zx139, zx140, zx141, zx142, zx143, zx144, zx145, zg2, zg17, zg32, zgo3, zgo18, zgo33, zl47, zlo, zlp, zlx, zs90, zso, zsp, zsx, zt99, zto, ztp1, ztp2, ztgo, ztso, ztsp, ztsx, zc0, zi0, zc1, zi1, zc2, zi2, zc3, zi3, zc4, zi4, zc5, zi5, e1, zle, p1, p2, b1, hle, nI_1]
        exact q1
      · obtain ⟨M', q1, q2⟩ := ih (i + 1) fuel M3 (nI i) (nI v) (nI i) (nI v) hR3 (by omega) (by omega) (Or.inr ⟨i, v, by omega, b2, rfl, rfl, rfl, rfl⟩)
        refine ⟨M', ?_, fun z z1 z2 z3 z4 z5 => by rw [q2 z z1 z2 z3 z4 z5, er z z1 z2 z3 z4 z5]⟩
        have hle : (nI v ≤ gr) = False := by rw [h5]; exact eq_false hc
        rw [if_pos (Or.inr (by rw [h6]; exact hc))]
        simp (disch := omega) only [fxX9_keepHome_b21, fxX9_keepHome_b76, am_gd_t, am_lt_e, am_bd_s, bi_0, bi_bz, bz0, bz1, nz2, nz10, nz100, hp_gi, hp_si, ↓reduceIte, if_true, if_false, Bool.true_eq_false, Bool.false_eq_true, eq_self, reduceCtorEq, zo0, zp0_0, zp0_1, zp0_2, zp0_4, zp0_5, zp0_6, zp0_7, zp0_8, zp0_9, zp0_10, zo1, zp1_0, zp1_5, zp1_6, zp1_9, zo16, zp16_0, zp16_5, zp16_6, zp16_9, zo31, zp31_0, zp31_5, zp31_6, zp31_9, zo46, zp46_0, zp46_1, zp46_2, zo79, zp79_0, zo83, zp83_0, zp83_1, zp83_2, zo87, zp87_0, zp87_1, zo121, zp121_0, zp121_1, zp121_2, zp121_4, zp121_5, zp121_6, zp121_7, zp121_8, zp121_16, zp121_17, zp121_18, zp121_21, zp121_23, zp121_24, zp121_25, zp121_26, zp121_27, zp121_28, zp121_29, zp121_30, zp121_31, zp121_32, zp121_33, zp121_34, zp79_2, zx2, zx13, zx14, zx15, zx17, zx28, zx29, zx30, zx32, zx43, zx44, zx45, zx47, zx78, zx80, zx84, zx85, zx86, zx88, zx89, zx90, zx99, zx120, zx122, zx123, zx124, zx125, zx126, zx127, zx128, zx129, zx130, zx131, zx132, zx133, zx134, zx135, zx136, zx137, zx138, zx139, zx140, zx141, zx142, zx143, zx144, zx145, zg2, zg17, zg32, zgo3, zgo18, zgo33, zl47, zlo, zlp, zlx, zs90, zso, zsp, zsx, zt99, zto, ztp1, ztp2, ztgo, ztso, ztsp, ztsx, zc0, zi0, zc1, zi1, zc2, zi2, zc3, zi3, zc4, zi4, zc5, zi5, e1, zle, p1, p2, b1, hle, nI_1]
        exact q1
theorem kh_m {lp d m n : Nat} {M0 : Mem} {g : Nat → Int32} (hm : MO M0 g) (hn : cn (g 1) = n) (em : g 2 = nI m) (hm9 : m ≤ 9999) (hd : d ≤ 100) : ∀ k i fuel (M : Mem) (b mo : Int32), M 122 = g → (∀ j, j < 76 → M 127 j = g j) → i + k = n → k < fuel → (b = -1 ∨ ∃ v, v < i ∧ b = nI v) → ∃ M', fxX10_keepHome_b24 fuel (some 121) (nI d) b mo (nI i) (hp lp M) = some (khS g d k i b mo, hp lp M') ∧ M' 122 = g ∧ ∀ z, z ≠ 122 → z ≠ 125 → z ≠ 126 → z ≠ 135 → z ≠ 136 → M' z = M z := by
  obtain ⟨hn10, en⟩ := hm.1.n
  intro k
  induction k with
  | zero =>
    intro i fuel M b mo eg h127 hi hf hst
    obtain ⟨fuel, rfl⟩ : ∃ f, fuel = f + 1 := ⟨fuel - 1, by omega⟩
    have e1 : M 122 1 = nI i := by rw [eg, en]; congr 1; omega
    refine ⟨M, ?_, eg, fun _ _ _ _ _ _ => rfl⟩
    have hr : fxX10_told0 b (hp lp M) = some (told0S b, hp lp M) := by
      unfold fxX10_told0 told0S
      split <;> rfl
    simp (disch := omega) only [fxX10_keepHome_b24, am_gd_t, am_lt_e, am_bd_s, bi_0, bi_bz, bz0, bz1, nz2, nz10, nz100, hp_gi, hp_si, ↓reduceIte, if_true, if_false, Bool.true_eq_false, Bool.false_eq_true, eq_self, reduceCtorEq, zo0, zp0_0, zp0_1, zp0_2, zp0_4, zp0_5, zp0_6, zp0_7, zp0_8, zp0_9, zp0_10, zo1, zp1_0, zp1_5, zp1_6, zp1_9, zo16, zp16_0, zp16_5, zp16_6, zp16_9, zo31, zp31_0, zp31_5, zp31_6, zp31_9, zo46, zp46_0, zp46_1, zp46_2, zo79, zp79_0, zo83, zp83_0, zp83_1, zp83_2, zo87, zp87_0, zp87_1, zo121, zp121_0, zp121_1, zp121_2, zp121_4, zp121_5, zp121_6, zp121_7, zp121_8, zp121_16, zp121_17, zp121_18, zp121_21, zp121_23, zp121_24, zp121_25, zp121_26, zp121_27, zp121_28, zp121_29, zp121_30, zp121_31, zp121_32, zp121_33, zp121_34, zp79_2, zx2, zx13, zx14, zx15, zx17, zx28, zx29, zx30, zx32, zx43, zx44, zx45, zx47, zx78, zx80, zx84, zx85, zx86, zx88, zx89, zx90, zx99, zx120, zx122, zx123, zx124, zx125, zx126, zx127, zx128, zx129, zx130, zx131, zx132, zx133, zx134, zx135, zx136, zx137, zx138, zx139, zx140, zx141, zx142, zx143, zx144, zx145, zg2, zg17, zg32, zgo3, zgo18, zgo33, zl47, zlo, zlp, zlx, zs90, zso, zsp, zsx, zt99, zto, ztp1, ztp2, ztgo, ztso, ztsp, ztsx, zc0, zi0, zc1, zi1, zc2, zi2, zc3, zi3, zc4, zi4, zc5, zi5, e1, zle', hr, khS]
  | succ k ih =>
    intro i fuel M b mo eg h127 hi hf hst
    obtain ⟨fuel, rfl⟩ : ∃ f, fuel = f + 1 := ⟨fuel - 1, by omega⟩
    have e1 : M 122 1 = nI n := by rw [eg, en, hn]
    obtain ⟨M1, v1, v2, v3⟩ := q_goesOn (lp := lp) (M0 := M0) (home := nI i) d (by omega) M (by rw [eg]; exact hm) (by rw [eg, em, cn_nI (by omega)]; omega)
    rw [eg] at v1 v2
    obtain ⟨M2, y1, y2⟩ := bA (lp := lp) (M0 := M0) (M := M1) (by rw [v2]; exact MO_live hm em (by omega))
    rw [v2] at y1
    obtain ⟨M3, x1, x2, x3⟩ := q_putsBack (lp := lp) M2
    have g3 : M3 122 = g := by
      refine back_eq (home := nI i) (d := d) (b := M2 127) (by omega) (fun j hj => ?_) (fun j => ?_)
      · rw [y2 127 (by decide) (by decide) (by decide) (by decide), v3 127 (by decide) (by decide) (by decide), h127 j hj]
      · rw [x2 j, y2 122 (by decide) (by decide) (by decide) (by decide), v2]
    have er : ∀ z, z ≠ 122 → z ≠ 125 → z ≠ 126 → z ≠ 135 → z ≠ 136 → M3 z = M z := fun z z1 z2 z3 z4 z5 => by rw [x3 z z1, y2 z z2 z3 z4 z5, v3 z z1 z4 z5]
    have h127' : ∀ j, j < 76 → M3 127 j = g j := fun j hj => by rw [er 127 (by decide) (by decide) (by decide) (by decide) (by decide)]; exact h127 j hj
    unfold khS
    generalize hv : bV (liveG (nI i) d g) = v at *
    have self : (nI i = nI i) = True := eq_true rfl
    by_cases c1 : b < 0
    · obtain ⟨M', q1, q2, q3⟩ := ih (i + 1) fuel M3 (nI i) (nI v) g3 h127' (by omega) (by omega) (Or.inr ⟨i, by omega, rfl⟩)
      refine ⟨M', ?_, q2, fun z z1 z2 z3 z4 z5 => by rw [q3 z z1 z2 z3 z4 z5, er z z1 z2 z3 z4 z5]⟩
      rw [if_pos (Or.inl c1)]
      simp (disch := omega) only [fxX10_keepHome_b24, fxX10_keepHome_b64, fxX10_keepHome_b70, fxX10_keepHome_b83, am_gd_t, am_lt_e, am_bd_s, bi_0, bi_bz, bz0, bz1, nz2, nz10, nz100, hp_gi, hp_si, ↓reduceIte, if_true, if_false, Bool.true_eq_false, Bool.false_eq_true, eq_self, reduceCtorEq, zo0, zp0_0, zp0_1, zp0_2, zp0_4, zp0_5, zp0_6, zp0_7, zp0_8, zp0_9, zp0_10, zo1, zp1_0, zp1_5, zp1_6, zp1_9, zo16, zp16_0, zp16_5, zp16_6, zp16_9, zo31, zp31_0, zp31_5, zp31_6, zp31_9, zo46, zp46_0, zp46_1, zp46_2, zo79, zp79_0, zo83, zp83_0, zp83_1, zp83_2, zo87, zp87_0, zp87_1, zo121, zp121_0, zp121_1, zp121_2, zp121_4, zp121_5, zp121_6, zp121_7, zp121_8, zp121_16, zp121_17, zp121_18, zp121_21, zp121_23, zp121_24, zp121_25, zp121_26, zp121_27, zp121_28, zp121_29, zp121_30, zp121_31, zp121_32, zp121_33, zp121_34, zp79_2, zx2, zx13, zx14, zx15, zx17, zx28, zx29, zx30, zx32, zx43, zx44, zx45, zx47, zx78, zx80, zx84, zx85, zx86, zx88, zx89, zx90, zx99, zx120, zx122, zx123, zx124, zx125, zx126, zx127, zx128, zx129, zx130, zx131, zx132, zx133, zx134, zx135, zx136, zx137, zx138, zx139, zx140, zx141, zx142, zx143, zx144, zx145, zg2, zg17, zg32, zgo3, zgo18, zgo33, zl47, zlo, zlp, zlx, zs90, zso, zsp, zsx, zt99, zto, ztp1, ztp2, ztgo, ztso, ztsp, ztsx, zc0, zi0, zc1, zi1, zc2, zi2, zc3, zi3, zc4, zi4, zc5, zi5, e1, zle, v1, y1, x1, c1, nI_1]
      exact q1
    · by_cases c2 : nI v ≤ mo
      · obtain ⟨M', q1, q2, q3⟩ := ih (i + 1) fuel M3 b mo g3 h127' (by omega) (by omega) (by
          rcases hst with h | ⟨x, h, h'⟩
          · exact Or.inl h
          · exact Or.inr ⟨x, by omega, h'⟩)
        refine ⟨M', ?_, q2, fun z z1 z2 z3 z4 z5 => by rw [q3 z z1 z2 z3 z4 z5, er z z1 z2 z3 z4 z5]⟩
        have hbi : (b = nI i) = False := eq_false (fun q => by
          rcases hst with h | ⟨x, h, h'⟩
          · rw [h] at c1; exact c1 (by decide)
          · rw [h'] at q
            have := (nI_eq (by omega) (by omega)).mp q
            omega)
        rw [if_neg (by rintro (q | q); exact c1 q; exact q c2)]
        simp (disch := omega) only [fxX10_keepHome_b24, fxX10_keepHome_b64, fxX10_keepHome_b70, fxX10_keepHome_b83, am_gd_t, am_lt_e, am_bd_s, bi_0, bi_bz, bz0, bz1, nz2, nz10, nz100, hp_gi, hp_si, ↓reduceIte, if_true, if_false, Bool.true_eq_false, Bool.false_eq_true, eq_self, reduceCtorEq, zo0, zp0_0, zp0_1, zp0_2, zp0_4, zp0_5, zp0_6, zp0_7, zp0_8, zp0_9, zp0_10, zo1, zp1_0, zp1_5, zp1_6, zp1_9, zo16, zp16_0, zp16_5, zp16_6, zp16_9, zo31, zp31_0, zp31_5, zp31_6, zp31_9, zo46, zp46_0, zp46_1, zp46_2, zo79, zp79_0, zo83, zp83_0, zp83_1, zp83_2, zo87, zp87_0, zp87_1, zo121, zp121_0, zp121_1, zp121_2, zp121_4, zp121_5, zp121_6, zp121_7, zp121_8, zp121_16, zp121_17, zp121_18, zp121_21, zp121_23, zp121_24, zp121_25, zp121_26, zp121_27, zp121_28, zp121_29, zp121_30, zp121_31, zp121_32, zp121_33, zp121_34, zp79_2, zx2, zx13, zx14, zx15, zx17, zx28, zx29, zx30, zx32, zx43, zx44, zx45, zx47, zx78, zx80, zx84, zx85, zx86, zx88, zx89, zx90, zx99, zx120, zx122, zx123, zx124, zx125, zx126, zx127, zx128, zx129, zx130, zx131, zx132, zx133, zx134, zx135, zx136, zx137, zx138, zx139, zx140, zx141, zx142, zx143, zx144, zx145, zg2, zg17, zg32, zgo3, zgo18, zgo33, zl47, zlo, zlp, zlx, zs90, zso, zsp, zsx, zt99, zto, ztp1, ztp2, ztgo, ztso, ztsp, ztsx, zc0, zi0, zc1, zi1, zc2, zi2, zc3, zi3, zc4, zi4, zc5, zi5, e1, zle, v1, y1, x1, c1, c2, hbi, nI_1]
        exact q1
      · obtain ⟨M', q1, q2, q3⟩ := ih (i + 1) fuel M3 (nI i) (nI v) g3 h127' (by omega) (by omega) (Or.inr ⟨i, by omega, rfl⟩)
        refine ⟨M', ?_, q2, fun z z1 z2 z3 z4 z5 => by rw [q3 z z1 z2 z3 z4 z5, er z z1 z2 z3 z4 z5]⟩
        rw [if_pos (Or.inr c2)]
        simp (disch := omega) only [fxX10_keepHome_b24, fxX10_keepHome_b64, fxX10_keepHome_b70, fxX10_keepHome_b83, am_gd_t, am_lt_e, am_bd_s, bi_0, bi_bz, bz0, bz1, nz2, nz10, nz100, hp_gi, hp_si, ↓reduceIte, if_true, if_false, Bool.true_eq_false, Bool.false_eq_true, eq_self, reduceCtorEq, zo0, zp0_0, zp0_1, zp0_2, zp0_4, zp0_5, zp0_6, zp0_7, zp0_8, zp0_9, zp0_10, zo1, zp1_0, zp1_5, zp1_6, zp1_9, zo16, zp16_0, zp16_5, zp16_6, zp16_9, zo31, zp31_0, zp31_5, zp31_6, zp31_9, zo46, zp46_0, zp46_1, zp46_2, zo79, zp79_0, zo83, zp83_0, zp83_1, zp83_2, zo87, zp87_0, zp87_1, zo121, zp121_0, zp121_1, zp121_2, zp121_4, zp121_5, zp121_6, zp121_7, zp121_8, zp121_16, zp121_17, zp121_18, zp121_21, zp121_23, zp121_24, zp121_25, zp121_26, zp121_27, zp121_28, zp121_29, zp121_30, zp121_31, zp121_32, zp121_33, zp121_34, zp79_2, zx2, zx13, zx14, zx15, zx17, zx28, zx29, zx30, zx32, zx43, zx44, zx45, zx47, zx78, zx80, zx84, zx85, zx86, zx88, zx89, zx90, zx99, zx120, zx122, zx123, zx124, zx125, zx126, zx127, zx128, zx129, zx130, zx131, zx132, zx133, zx134, zx135, zx136, zx137, zx138, zx139, zx140, zx141, zx142, zx143, zx144, zx145, zg2, zg17, zg32, zgo3, zgo18, zgo33, zl47, zlo, zlp, zlx, zs90, zso, zsp, zsx, zt99, zto, ztp1, ztp2, ztgo, ztso, ztsp, ztsx, zc0, zi0, zc1, zi1, zc2, zi2, zc3, zi3, zc4, zi4, zc5, zi5, e1, zle, v1, y1, x1, c1, c2, nI_1]
        exact q1
theorem P_keepHome (a : Int32) : Pair (fxX9_keepHome (some 0) a) (fxX10_keepHome (some 121) a) := by
  intro lp M hI
  cases ha : iw a 1 30 with
  | false => exact ⟨-1000000001, lp, M, M, by simp only [fxX9_keepHome, am_gd_t, am_lt_e, am_bd_s, bi_0, bi_bz, bz0, bz1, nz2, nz10, nz100, hp_gi, hp_si, ob_0, ob_1, pt00, pt10, ↓reduceIte, if_true, if_false, Bool.true_eq_false, Bool.false_eq_true, eq_self, reduceCtorEq, q_within, ha], by simp only [fxX10_keepHome, am_gd_t, am_lt_e, am_bd_s, bi_0, bi_bz, bz0, bz1, nz2, nz10, nz100, hp_gi, hp_si, ob_M, pm0, pm0i, ↓reduceIte, if_true, if_false, Bool.true_eq_false, Bool.false_eq_true, eq_self, reduceCtorEq, q_in, ha], hI⟩
  | true =>
  obtain ⟨d, hd, rfl⟩ := iw_lit 30 (b := 30) rfl (by decide) (iw_low (by decide) ha)
  have hR := hI.1.1
  obtain ⟨hc, ec⟩ := hR.2.2.2.2.1.n
  obtain ⟨m, hm, em⟩ := hR.2.2.2.2.1.2.1
  have hm9 : m ≤ 9999 := by have := hI.1.2; rw [em, cn_nI (by omega)] at this; exact this
  obtain ⟨Mc, p1, p2⟩ := kh_c (lp := lp) (d := d) (g := M 122) rfl em hm9 (by omega) (cn (M 122 1)) 0 am_F M (-1000000005) (-1) (-1) 0 hR (by omega) (by unfold am_F; omega) (Or.inl ⟨rfl, rfl, rfl⟩)
  obtain ⟨Ma, u1, u2, u3⟩ := q_thinks (lp := lp) Mc
  have em122 : Mc 122 = M 122 := p2 122 (by omega) (by decide) (by decide) (by decide) (by decide)
  have e122 : Ma 122 = M 122 := by rw [u3 122 (by decide), em122]
  obtain ⟨Mz, q1, q2, q3⟩ := kh_m (lp := lp) (d := d) (M0 := M) (g := M 122) ⟨hR.2.2.2.2.1, hR.2.2.2.1.1⟩ rfl em hm9 (by omega) (cn (M 122 1)) 0 am_F Ma (-1) 0 e122 (fun j hj => by rw [u2 j hj, em122]) (by omega) (by unfold am_F; omega) (Or.inl rfl)
  have er : ∀ z, ¬ (31 ≤ z ∧ z ≤ 45) → z ≠ 78 → z ≠ 83 → z ≠ 84 → z ≠ 85 → z ≠ 122 → z ≠ 125 → z ≠ 126 → z ≠ 127 → z ≠ 135 → z ≠ 136 → Mz z = M z := fun z z1 z2 z3 z4 z5 z6 z7 z8 z9 z10 z11 => by rw [q3 z z6 z7 z8 z10 z11, u3 z z9, p2 z z1 z2 z3 z4 z5]
  have e121 : Mz 121 = M 121 := er 121 (by omega) (by decide) (by decide) (by decide) (by decide) (by decide) (by decide) (by decide) (by decide) (by decide) (by decide)
  refine ⟨khS (M 122) d (cn (M 122 1)) 0 (-1) 0, lp, Mc, Mz, ?_, ?_, hI.scr (fun k hk hk2 => ?_) (by rw [e121]) (by rw [e121]) (by rw [e121])⟩
  · simp only [fxX9_keepHome, am_gd_t, am_lt_e, am_bd_s, bi_0, bi_bz, bz0, bz1, nz2, nz10, nz100, hp_gi, hp_si, ↓reduceIte, if_true, if_false, Bool.true_eq_false, Bool.false_eq_true, eq_self, reduceCtorEq, zo0, zp0_0, zp0_1, zp0_2, zp0_4, zp0_5, zp0_6, zp0_7, zp0_8, zp0_9, zp0_10, zo1, zp1_0, zp1_5, zp1_6, zp1_9, zo16, zp16_0, zp16_5, zp16_6, zp16_9, zo31, zp31_0, zp31_5, zp31_6, zp31_9, zo46, zp46_0, zp46_1, zp46_2, zo79, zp79_0, zo83, zp83_0, zp83_1, zp83_2, zo87, zp87_0, zp87_1, zo121, zp121_0, zp121_1, zp121_2, zp121_4, zp121_5, zp121_6, zp121_7, zp121_8, zp121_16, zp121_17, zp121_18, zp121_21, zp121_23, zp121_24, zp121_25, zp121_26, zp121_27, zp121_28, zp121_29, zp121_30, zp121_31, zp121_32, zp121_33, zp121_34, zp79_2, zx2, zx13, zx14, zx15, zx17, zx28, zx29, zx30, zx32, zx43, zx44, zx45, zx47, zx78, zx80, zx84, zx85, zx86, zx88, zx89, zx90, zx99, zx120, zx122, zx123, zx124, zx125, zx126, zx127, zx128, zx129, zx130, zx131, zx132, zx133, zx134, zx135, zx136, zx137, zx138, zx139, zx140, zx141, zx142, zx143, zx144, zx145, zg2, zg17, zg32, zgo3, zgo18, zgo33, zl47, zlo, zlp, zlx, zs90, zso, zsp, zsx, zt99, zto, ztp1, ztp2, ztgo, ztso, ztsp, ztsx, zc0, zi0, zc1, zi1, zc2, zi2, zc3, zi3, zc4, zi4, zc5, zi5, q_within, ha]
    exact p1
  · simp only [fxX10_keepHome, am_gd_t, am_lt_e, am_bd_s, bi_0, bi_bz, bz0, bz1, nz2, nz10, nz100, hp_gi, hp_si, ↓reduceIte, if_true, if_false, Bool.true_eq_false, Bool.false_eq_true, eq_self, reduceCtorEq, zo0, zp0_0, zp0_1, zp0_2, zp0_4, zp0_5, zp0_6, zp0_7, zp0_8, zp0_9, zp0_10, zo1, zp1_0, zp1_5, zp1_6, zp1_9, zo16, zp16_0, zp16_5, zp16_6, zp16_9, zo31, zp31_0, zp31_5, zp31_6, zp31_9, zo46, zp46_0, zp46_1, zp46_2, zo79, zp79_0, zo83, zp83_0, zp83_1, zp83_2, zo87, zp87_0, zp87_1, zo121, zp121_0, zp121_1, zp121_2, zp121_4, zp121_5, zp121_6, zp121_7, zp121_8, zp121_16, zp121_17, zp121_18, zp121_21, zp121_23, zp121_24, zp121_25, zp121_26, zp121_27, zp121_28, zp121_29, zp121_30, zp121_31, zp121_32, zp121_33, zp121_34, zp79_2, zx2, zx13, zx14, zx15, zx17, zx28, zx29, zx30, zx32, zx43, zx44, zx45, zx47, zx78, zx80, zx84, zx85, zx86, zx88, zx89, zx90, zx99, zx120, zx122, zx123, zx124, zx125, zx126, zx127, zx128, zx129, zx130, zx131, zx132, zx133, zx134, zx135, zx136, zx137, zx138, zx139, zx140, zx141, zx142, zx143, zx144, zx145, zg2, zg17, zg32, zgo3, zgo18, zgo33, zl47, zlo, zlp, zlx, zs90, zso, zsp, zsx, zt99, zto, ztp1, ztp2, ztgo, ztso, ztsp, ztsx, zc0, zi0, zc1, zi1, zc2, zi2, zc3, zi3, zc4, zi4, zc5, zi5, q_in, ha, u1]
    exact q1
  · by_cases h122 : k = 122
    · subst h122; exact q2
    · unfold scrP at hk
      exact er k (by omega) (by omega) (by omega) (by omega) (by omega) h122 (by omega) (by omega) (by omega) (by omega) (by omega)
