/-! ===== guilds that take after others: keep, back ===== -/
theorem take_b121 {lp gb gc : Nat} (hb : isGu gb) (hc : isGu gc) (hne : gb ≠ gc) : ∀ k i fuel (M : Mem), i + k = 3 → k < fuel → ∃ M', fxX2_takeAfter_b121 fuel (some gb) (some gc) (nI i) (hp lp M) = some ((), hp lp M') ∧ (∀ z, z ≠ gb + 14 → M' z = M z) ∧ ∀ j, M' (gb + 14) j = if i ≤ j ∧ j < 3 then M (gc + 14) j else M (gb + 14) j := by
  intro k
  induction k with
  | zero =>
    intro i fuel M hi hf
    obtain ⟨fuel, rfl⟩ : ∃ f, fuel = f + 1 := ⟨fuel - 1, by omega⟩
    obtain rfl : i = 3 := by omega
    refine ⟨M, ?_, fun _ _ => rfl, fun j => by rw [if_neg (by omega)]⟩
    simp only [fxX2_takeAfter_b121, show ((3 : Int32) ≤ nI 3) = True from by decide, ↓reduceIte, if_true, if_false, Bool.true_eq_false, Bool.false_eq_true, eq_self, reduceCtorEq]
  | succ k ih =>
    intro i fuel M hi hf
    obtain ⟨fuel, rfl⟩ : ∃ f, fuel = f + 1 := ⟨fuel - 1, by omega⟩
    obtain ⟨M', q1, q2, q3⟩ := ih (i + 1) fuel (am_up M (gb + 14) i (M (gc + 14) i)) (by omega) (by omega)
    refine ⟨M', ?_, fun z hz => by rw [q2 z hz, am_up_ne hz], fun j => ?_⟩
    · have h3 : ((3 : Int32) ≤ nI i) = False := zle (n := 3) (by omega) (by decide)
      simp (disch := omega) only [fxX2_takeAfter_b121, h3, am_gd_t, am_lt_e, am_bd_s, bi_0, bi_bz, bz0, bz1, nz2, nz10, nz100, hp_gi, hp_si, ↓reduceIte, if_true, if_false, Bool.true_eq_false, Bool.false_eq_true, eq_self, reduceCtorEq, zin, zcl, nI_1, Bool.and_self, Bool.true_and, Bool.and_true, ob_gu hb, ob_gu hc, gu_9 hb, gu_9 hc, x_gu14 hb, x_gu14 hc]
      exact q1
    · rw [q3 j, up_row, am_up_ne (by omega)]
      unfold up1
      by_cases h1 : j = i
      · subst h1
        rw [if_neg (by omega), if_pos rfl, if_pos (by omega)]
      · rw [if_neg h1]
        by_cases h2 : i + 1 ≤ j ∧ j < 3
        · rw [if_pos h2, if_pos (by omega)]
        · rw [if_neg h2, if_neg (by omega)]
theorem take_b73 {lp gb gc w : Nat} (hb : isGu gb) (hc : isGu gc) (hne : gb ≠ gc) (hw : w ≤ 10) : ∀ k i fuel (M : Mem), i + k = w → k < fuel → M gb 7 = nI w → ∃ M', fxX2_takeAfter_b73 fuel (some gb) (some gc) (nI i) (hp lp M) = some ((), hp lp M') ∧ (∀ z, z ≠ gb → z ≠ gb + 12 → z ≠ gb + 13 → z ≠ gb + 14 → M' z = M z) ∧ M' gb = up1 (M gb) 8 (M gc 8) ∧ (∀ j, M' (gb + 12) j = if i ≤ j ∧ j < w then M (gc + 12) j else M (gb + 12) j) ∧ (∀ j, M' (gb + 13) j = if i ≤ j ∧ j < w then M (gc + 13) j else M (gb + 13) j) ∧ ∀ j, j < 3 → M' (gb + 14) j = M (gc + 14) j := by
  have eb : gb = 1 ∨ gb = 16 ∨ gb = 31 := hb
  have ec : gc = 1 ∨ gc = 16 ∨ gc = 31 := hc
  intro k
  induction k with
  | zero =>
    intro i fuel M hi hf e7
    obtain ⟨fuel, rfl⟩ : ∃ f, fuel = f + 1 := ⟨fuel - 1, by omega⟩
    obtain rfl : i = w := by omega
    obtain ⟨M', q1, q2, q3⟩ := take_b121 (lp := lp) hb hc hne 3 0 am_F (am_up M gb 8 (M gc 8)) (by omega) (by unfold am_F; omega)
    refine ⟨M', ?_, fun z z1 z2 z3 z4 => by rw [q2 z z4, am_up_ne z1], by rw [q2 gb (by omega), up_row], fun j => by rw [q2 _ (by omega), am_up_ne (by omega), if_neg (by omega)], fun j => by rw [q2 _ (by omega), am_up_ne (by omega), if_neg (by omega)], fun j hj => by rw [q3, if_pos (by omega), am_up_ne (by omega)]⟩
    simp (disch := omega) only [fxX2_takeAfter_b73, am_gd_t, am_lt_e, am_bd_s, bi_0, bi_bz, bz0, bz1, nz2, nz10, nz100, hp_gi, hp_si, ↓reduceIte, if_true, if_false, Bool.true_eq_false, Bool.false_eq_true, eq_self, reduceCtorEq, zin, zcl, nI_1, Bool.and_self, Bool.true_and, Bool.and_true, ob_gu hb, ob_gu hc, e7, zle']
    exact q1
  | succ k ih =>
    intro i fuel M hi hf e7
    obtain ⟨fuel, rfl⟩ : ∃ f, fuel = f + 1 := ⟨fuel - 1, by omega⟩
    generalize hM1 : am_up (am_up M (gb + 12) i (M (gc + 12) i)) (gb + 13) i (M (gc + 13) i) = M1
    have r : ∀ z, z ≠ gb + 12 → z ≠ gb + 13 → M1 z = M z := fun z z1 z2 => by rw [← hM1, am_up_ne z2, am_up_ne z1]
    obtain ⟨M', q1, q2, q3, q4, q5, q6⟩ := ih (i + 1) fuel M1 (by omega) (by omega) (by rw [r gb (by omega) (by omega)]; exact e7)
    refine ⟨M', ?_, fun z z1 z2 z3 z4 => by rw [q2 z z1 z2 z3 z4, r z z2 z3], by rw [q3, r gb (by omega) (by omega), r gc (by omega) (by omega)], fun j => ?_, fun j => ?_, fun j hj => by rw [q6 j hj, r _ (by omega) (by omega)]⟩
    · have hh : am_up M (gb + 12) i (M (gc + 12) i) (gc + 13) = M (gc + 13) := am_up_ne (by omega)
      simp (disch := omega) only [fxX2_takeAfter_b73, am_gd_t, am_lt_e, am_bd_s, bi_0, bi_bz, bz0, bz1, nz2, nz10, nz100, hp_gi, hp_si, ↓reduceIte, if_true, if_false, Bool.true_eq_false, Bool.false_eq_true, eq_self, reduceCtorEq, zin, zcl, nI_1, Bool.and_self, Bool.true_and, Bool.and_true, ob_gu hb, ob_gu hc, e7, zle, gu_5 hb, gu_5 hc, gu_6 hb, gu_6 hc, x_gu12 hb, x_gu12 hc, x_gu13 hb, x_gu13 hc, hh, hM1]
      exact q1
    · rw [q4 j, r (gc + 12) (by omega) (by omega), ← hM1, am_up_ne (by omega), up_row]
      unfold up1
      by_cases h1 : j = i
      · subst h1
        rw [if_neg (by omega), if_pos rfl, if_pos (by omega)]
      · rw [if_neg h1]
        by_cases h2 : i + 1 ≤ j ∧ j < w
        · rw [if_pos h2, if_pos (by omega)]
        · rw [if_neg h2, if_neg (by omega)]
    · rw [q5 j, r (gc + 13) (by omega) (by omega), ← hM1, up_row, am_up_ne (by omega)]
      unfold up1
      by_cases h1 : j = i
      · subst h1
        rw [if_neg (by omega), if_pos rfl, if_pos (by omega)]
      · rw [if_neg h1]
        by_cases h2 : i + 1 ≤ j ∧ j < w
        · rw [if_pos h2, if_pos (by omega)]
        · rw [if_neg h2, if_neg (by omega)]
theorem take_b10 {lp gb gc n w : Nat} (hb : isGu gb) (hc : isGu gc) (hne : gb ≠ gc) (hn : n ≤ 10) (hw : w ≤ 10) : ∀ k i fuel (M : Mem), i + k = n → k < fuel → M gb 1 = nI n → M gc 7 = nI w → (∀ i, i < n → GV (M (gc + 2 + i))) → ∃ M', fxX2_takeAfter_b10 fuel (some gb) (some gc) (nI i) (hp lp M) = some ((), hp lp M') ∧ (∀ z, ¬ (gb ≤ z ∧ z ≤ gb + 14) → M' z = M z) ∧ (M' gb 1 = nI n ∧ M' gb 2 = M gc 2 ∧ M' gb 3 = M gc 3 ∧ M' gb 4 = M gc 4 ∧ M' gb 7 = M gc 7 ∧ M' gb 8 = M gc 8) ∧ (∀ a, a < i → M' (gb + 2 + a) = M (gb + 2 + a)) ∧ (∀ a, i ≤ a → a < n → ∀ j, j < 6 → M' (gb + 2 + a) j = M (gc + 2 + a) j) ∧ (∀ j, j < w → M' (gb + 12) j = M (gc + 12) j) ∧ (∀ j, j < w → M' (gb + 13) j = M (gc + 13) j) ∧ ∀ j, j < 3 → M' (gb + 14) j = M (gc + 14) j := by
  have eb : gb = 1 ∨ gb = 16 ∨ gb = 31 := hb
  have ec : gc = 1 ∨ gc = 16 ∨ gc = 31 := hc
  intro k
  induction k with
  | zero =>
    intro i fuel M hi hf e1 e7 hv
    obtain ⟨fuel, rfl⟩ : ∃ f, fuel = f + 1 := ⟨fuel - 1, by omega⟩
    obtain rfl : i = n := by omega
    generalize hM1 : am_up (am_up (am_up (am_up M gb 2 (M gc 2)) gb 3 (M gc 3)) gb 4 (M gc 4)) gb 7 (nI w) = M1
    have r : ∀ z, z ≠ gb → M1 z = M z := fun z hz => by rw [← hM1, am_up_ne hz, am_up_ne hz, am_up_ne hz, am_up_ne hz]
    obtain ⟨M', q1, q2, q3, q4, q5, q6⟩ := take_b73 (lp := lp) hb hc hne hw w 0 am_F M1 (by omega) (by unfold am_F; omega) (by rw [← hM1, up_eq])
    have g1 : am_up M gb 2 (M gc 2) gc = M gc := am_up_ne (by omega)
    have g2 : am_up (am_up M gb 2 (M gc 2)) gb 3 (M gc 3) gc = M gc := by rw [am_up_ne (by omega), g1]
    have g3 : am_up (am_up (am_up M gb 2 (M gc 2)) gb 3 (M gc 3)) gb 4 (M gc 4) gc = M gc := by rw [am_up_ne (by omega), g2]
    refine ⟨M', ?_, fun z hz => by rw [q2 z (by omega) (by omega) (by omega) (by omega), r z (by omega)], ⟨?_, ?_, ?_, ?_, ?_, ?_⟩, fun a ha => by rw [q2 _ (by omega) (by omega) (by omega) (by omega), r _ (by omega)], fun a h1 h2 => by omega, fun j hj => by rw [q4, if_pos (by omega), r _ (by omega)], fun j hj => by rw [q5, if_pos (by omega), r _ (by omega)], fun j hj => by rw [q6 j hj, r _ (by omega)]⟩
    · simp (disch := omega) only [fxX2_takeAfter_b10, am_gd_t, am_lt_e, am_bd_s, bi_0, bi_bz, bz0, bz1, nz2, nz10, nz100, hp_gi, hp_si, ↓reduceIte, if_true, if_false, Bool.true_eq_false, Bool.false_eq_true, eq_self, reduceCtorEq, zin, zcl, nI_1, Bool.and_self, Bool.true_and, Bool.and_true, ob_gu hb, ob_gu hc, e1, zle', g1, g2, g3, e7, hM1]
      exact q1
    · rw [q3, up1_ne (by decide), ← hM1, up_nj (by decide), up_nj (by decide), up_nj (by decide), up_nj (by decide)]; exact e1
    · rw [q3, up1_ne (by decide), ← hM1, up_nj (by decide), up_nj (by decide), up_nj (by decide), up_eq]
    · rw [q3, up1_ne (by decide), ← hM1, up_nj (by decide), up_nj (by decide), up_eq]
    · rw [q3, up1_ne (by decide), ← hM1, up_nj (by decide), up_eq]
    · rw [q3, up1_ne (by decide), ← hM1, up_eq]; exact e7.symm
    · rw [q3, up1_eq, r _ (by omega)]
  | succ k ih =>
    intro i fuel M hi hf e1 e7 hv
    obtain ⟨fuel, rfl⟩ : ∃ f, fuel = f + 1 := ⟨fuel - 1, by omega⟩
    obtain ⟨M1, p1, p2, p3⟩ := q_gtake (lp := lp) (M := M) (isG_gl hb (show i < 10 by omega)) (isG_gl hc (show i < 10 by omega)) (by omega) (hv i (by omega))
    obtain ⟨M', q1, q2, ⟨a1, a2, a3, a4, a5, a6⟩, q4, q5, q6, q7, q8⟩ := ih (i + 1) fuel M1 (by omega) (by omega) (by rw [p3 _ (by omega)]; exact e1) (by rw [p3 _ (by omega)]; exact e7) (fun a ha => by rw [p3 _ (by omega)]; exact hv a ha)
    have rc := p3 gc (by omega)
    rw [rc] at a2 a3 a4 a5 a6
    refine ⟨M', ?_, fun z hz => by rw [q2 z hz, p3 z (by omega)], ⟨a1, a2, a3, a4, a5, a6⟩, fun a ha => by rw [q4 a (by omega), p3 _ (by omega)], fun a h1 h2 j hj => ?_, fun j hj => by rw [q6 j hj, p3 _ (by omega)], fun j hj => by rw [q7 j hj, p3 _ (by omega)], fun j hj => by rw [q8 j hj, p3 _ (by omega)]⟩
    · simp (disch := omega) only [fxX2_takeAfter_b10, am_gd_t, am_lt_e, am_bd_s, bi_0, bi_bz, bz0, bz1, nz2, nz10, nz100, hp_gi, hp_si, ↓reduceIte, if_true, if_false, Bool.true_eq_false, Bool.false_eq_true, eq_self, reduceCtorEq, zin, zcl, nI_1, Bool.and_self, Bool.true_and, Bool.and_true, ob_gu hb, ob_gu hc, e1, zle, gu_0 hb, gu_0 hc, x_gu1 hb, x_gu1 hc, gu_gl hb, gu_gl hc, gu_go hb, gu_go hc, p1]
      exact q1
    · by_cases hai : a = i
      · subst hai
        rw [q4 a (by omega), p2 j hj]
      · rw [q5 a (by omega) h2 j hj, p3 _ (by omega)]
theorem q_take {lp gb gc : Nat} {M : Mem} {g : Nat → Int32} (hb : isGu gb) (hc : isGu gc) (hne : gb ≠ gc) (hR : RC M gc g) : ∃ M', fxX2_takeAfter (some gb) (some gc) (hp lp M) = some ((), hp lp M') ∧ RC M' gb g ∧ ∀ z, ¬ (gb ≤ z ∧ z ≤ gb + 14) → M' z = M z := by
  have eb : gb = 1 ∨ gb = 16 ∨ gb = 31 := hb
  have ec : gc = 1 ∨ gc = 16 ∨ gc = 31 := hc
  obtain ⟨⟨s1, s2, s3, s4, s5, s6⟩, a2, a3, a4, a5, a6⟩ := id hR
  obtain ⟨hn, en⟩ := a5.n
  obtain ⟨hw, ew⟩ := a5.w
  have h14 := a5.t.1
  have r : ∀ z, z ≠ gb → am_up M gb 1 (M gc 1) z = M z := fun z hz => am_up_ne hz
  obtain ⟨M', q1, q2, ⟨b1, b2, b3, b4, b5, b6⟩, q4, q5, q6, q7, q8⟩ := take_b10 (lp := lp) hb hc hne hn hw (cn (g 1)) 0 am_F (am_up M gb 1 (M gc 1)) (by omega) (by unfold am_F; omega) (by rw [up_eq, s2]; exact en) (by rw [r _ (by omega), s5]; exact ew) (fun i hi => by rw [r _ (by omega)]; exact (hR.gv hi).1)
  rw [r gc (by omega)] at b2 b3 b4 b5 b6
  refine ⟨M', ?_, ⟨⟨?_, ?_, ?_, ?_, ?_, ?_⟩, fun i hi j hj => ?_, fun i hi => ?_, ⟨fun t ht => ?_, fun key hk => ?_⟩, a5, a6⟩, fun z hz => by rw [q2 z hz, r z (by omega)]⟩
  · simp only [fxX2_takeAfter, am_gd_t, am_lt_e, am_bd_s, bi_0, bi_bz, bz0, bz1, nz2, nz10, nz100, hp_gi, hp_si, ob_gu hb, ob_gu hc]
    exact q1
  · rw [b4]; exact s1
  · rw [b1]; exact en.symm
  · rw [b3]; exact s3
  · rw [b2]; exact s4
  · rw [b5]; exact s5
  · rw [b6]; exact s6
  · rw [q5 i (by omega) hi j hj, r _ (by omega)]
    exact a2 i hi j hj
  · rw [q6 i hi, q7 i hi, r _ (by omega), r _ (by omega)]
    exact a3 i hi
  · exact TR_congr (by rw [q2 _ (by omega), r _ (by omega)]) (by rw [q2 _ (by omega), r _ (by omega)]) (a4.1 t ht)
  · rw [q8 key hk, r _ (by omega)]
    exact a4.2 key hk
theorem q_copyAll {lp a b : Nat} (ha : ∀ (M : Mem) i, am_ix (hp lp M) (some a) 0 i = am_in i 1448) (hb : ∀ (M : Mem) i, am_ix (hp lp M) (some b) 0 i = am_in i 1448) (hab : a ≠ b) (M : Mem) : ∃ M', fxX10_copyAll (some a) (some b) (hp lp M) = some ((), hp lp M') ∧ (∀ z, z ≠ b → M' z = M z) ∧ ∀ j, M' b j = if j < 1448 then M a j else M b j := by
  have L : ∀ k i fuel (M : Mem), i + k = 1448 → k < fuel → ∃ M', fxX10_copyAll_b2 fuel (some a) (some b) (nI i) (hp lp M) = some ((), hp lp M') ∧ (∀ z, z ≠ b → M' z = M z) ∧ ∀ j, M' b j = if i ≤ j ∧ j < 1448 then M a j else M b j := by
    intro k
    induction k with
    | zero =>
      intro i fuel M hi hf
      obtain ⟨fuel, rfl⟩ : ∃ f, fuel = f + 1 := ⟨fuel - 1, by omega⟩
      obtain rfl : i = 1448 := by omega
      refine ⟨M, ?_, fun _ _ => rfl, fun j => by rw [if_neg (by omega)]⟩
      simp only [fxX10_copyAll_b2, show ((1448 : Int32) ≤ nI 1448) = True from by decide, ↓reduceIte, if_true, if_false, Bool.true_eq_false, Bool.false_eq_true, eq_self, reduceCtorEq]
    | succ k ih =>
      intro i fuel M hi hf
      obtain ⟨fuel, rfl⟩ : ∃ f, fuel = f + 1 := ⟨fuel - 1, by omega⟩
      obtain ⟨M', q1, q2, q3⟩ := ih (i + 1) fuel (am_up M b i (M a i)) (by omega) (by omega)
      refine ⟨M', ?_, fun z hz => by rw [q2 z hz, am_up_ne hz], fun j => ?_⟩
      · have h3 : ((1448 : Int32) ≤ nI i) = False := zle (n := 1448) (by omega) (by decide)
        simp (disch := omega) only [fxX10_copyAll_b2, h3, am_gd_t, am_lt_e, am_bd_s, bi_0, bi_bz, bz0, bz1, nz2, nz10, nz100, hp_gi, hp_si, ↓reduceIte, if_true, if_false, Bool.true_eq_false, Bool.false_eq_true, eq_self, reduceCtorEq, zin, zcl, nI_1, Bool.and_self, Bool.true_and, Bool.and_true, ha, hb]
        exact q1
      · rw [q3 j, up_row, am_up_ne hab]
        unfold up1
        by_cases h1 : j = i
        · subst h1
          rw [if_neg (by omega), if_pos rfl, if_pos (by omega)]
        · rw [if_neg h1]
          by_cases h2 : i + 1 ≤ j ∧ j < 1448
          · rw [if_pos h2, if_pos (by omega)]
          · rw [if_neg h2, if_neg (by omega)]
  obtain ⟨M', q1, q2, q3⟩ := L 1448 0 am_F M (by omega) (by unfold am_F; omega)
  refine ⟨M', ?_, q2, fun j => ?_⟩
  · simp only [fxX10_copyAll, am_gd_t, am_lt_e, am_bd_s, bi_0, bi_bz, bz0, bz1, nz2, nz10, nz100, hp_gi, hp_si]
    exact q1
  · rw [q3]
    by_cases h : j < 1448
    · rw [if_pos (by omega), if_pos h]
    · rw [if_neg (by omega), if_neg h]
theorem pdep_g {c c' : Nat → Int32} : ∀ n, (∀ k, k < n → c' k = c k) → pdep c' n = pdep c n := by
  intro n
  induction n with
  | zero => intro _; rfl
  | succ n ih =>
    intro h
    unfold pdep
    rw [ih (fun k hk => h k (by omega)), h n (by omega)]
theorem RC_g {M : Mem} {gb : Nat} {g g' : Nat → Int32} (h : ∀ k, k < 1448 → g' k = g k) (hR : RC M gb g) : RC M gb g' := by
  obtain ⟨⟨s1, s2, s3, s4, s5, s6⟩, a2, a3, a4, a5, a6⟩ := id hR
  have hn := a5.n.1
  have hw := a5.w.1
  have h14 := a5.t.1
  have e := fun (k : Nat) (hk : k < 16) => h k (by omega)
  refine ⟨?_, fun i hi j hj => ?_, fun i hi => ?_, ⟨fun t ht => ?_, fun key hk => ?_⟩, ?_, fun i hi j hj => ?_⟩
  · unfold RCs
    rw [e 0 (by decide), e 1 (by decide), e 2 (by decide), e 3 (by decide), e 4 (by decide), e 5 (by decide)]
    exact ⟨s1, s2, s3, s4, s5, s6⟩
  · rw [e 1 (by decide)] at hi
    rw [h _ (by omega)]
    exact a2 i hi j hj
  · rw [e 4 (by decide)] at hi
    rw [h (6 + i) (by omega)]
    exact a3 i hi
  · rw [e 5 (by decide)] at ht
    obtain ⟨K, n, o, h1, h2, h3, h4, h5, h6, h7, h8, h9, h10, h11⟩ := a4.1 t ht
    have hc : ∀ k, k < n → g' (104 + 96 * t + k) = g (104 + 96 * t + k) := fun k hk => h _ (by omega)
    refine ⟨K, n, o, h1, h2, h3, by rw [h _ (by omega)]; exact h4, by rw [h _ (by omega)]; exact h5, h6, h7, h8, fun k hk => by rw [hc k hk]; exact h9 k hk, ?_, fun k hk i hi => h11 k hk i ((hc k hk).symm.trans hi)⟩
    rw [pdep_g n hc]
    exact h10
  · rw [e 5 (by decide), a4.2 key hk]
    have L : ∀ t, t ≤ 14 → lastK g' (nI key) t = lastK g (nI key) t := by
      intro t
      induction t with
      | zero => intro _; rfl
      | succ t ih =>
        intro ht
        unfold lastK
        rw [h (76 + 2 * t) (by omega), ih (by omega)]
    rw [L _ h14]
  · unfold Vs
    rw [e 1 (by decide), e 2 (by decide), e 3 (by decide), e 4 (by decide), e 5 (by decide)]
    exact a5
  · rw [e 1 (by decide)] at hi
    unfold mg
    rw [h _ (by omega)]
    exact a6 i hi j hj
theorem Inv.guilds {lp : Nat} {M M' : Mem} (hI : Inv lp M) (h : ∀ k, ¬ (k ≤ 45) → k ≠ 121 → k ≠ 122 → k ≠ 123 → ¬ scrP k → M' k = M k) (h0 : M' 0 11 = M 0 11) (h9 : M' 121 9 = M 121 9) (h35 : M' 121 35 = M 121 35) (hc : RC M' 1 (M' 122)) (hd : cn (M' 122 2) ≤ 9999) (hi : RI M') : Inv lp M' := by
  obtain ⟨⟨a1, a0⟩, a2, a3, a4, a5, a6, a7, a8⟩ := hI
  have e : ∀ k, 45 < k → k ≠ 121 → k ≠ 122 → k ≠ 123 → ¬ scrP k → M' k = M k := fun k q1 q2 q3 q4 q5 => h k (by omega) q2 q3 q4 q5
  unfold scrP at e
  exact ⟨⟨hc, hd⟩, hi, RT_congr (e 80 (by omega) (by omega) (by omega) (by omega) (by omega)) (e 129 (by omega) (by omega) (by omega) (by omega) (by omega)) (by rw [e 79 (by omega) (by omega) (by omega) (by omega) (by omega)]) h9 a3, RW_congr (e 120 (by omega) (by omega) (by omega) (by omega) (by omega)) (e 145 (by omega) (by omega) (by omega) (by omega) (by omega)) h0 h35 a4, RS_congr (fun k _ _ => e k (by omega) (by omega) (by omega) (by omega) (by omega)) (fun k _ _ => e k (by omega) (by omega) (by omega) (by omega) (by omega)) a5, RL_congr (fun k _ _ => e k (by omega) (by omega) (by omega) (by omega) (by omega)) (fun k _ _ => e k (by omega) (by omega) (by omega) (by omega) (by omega)) a6, RX_congr (e 130 (by omega) (by omega) (by omega) (by omega) (by omega)) (e 131 (by omega) (by omega) (by omega) (by omega) (by omega)) (e 88 (by omega) (by omega) (by omega) (by omega) (by omega)) a7, a8⟩
theorem P_keep : Pair (fxX9_keep (some 0)) (fxX10_keep (some 121)) := by
  intro lp M hI
  have hR := hI.1.1
  obtain ⟨hn, en⟩ := hR.2.2.2.2.1.n
  obtain ⟨A, q1, q2, q3⟩ := q_take (lp := lp) gu16 gu1 (by decide) hR
  generalize hM1 : am_up A 0 3 1 = M1
  have r1 : ∀ z, z ≠ 0 → M1 z = A z := fun z hz => by rw [← hM1, am_up_ne hz]
  obtain ⟨B, u1, u2, u3⟩ := q_copyAll (lp := lp) (a := 122) (b := 123) (fun _ _ => zx122) (fun _ _ => zx123) (by decide) M1
  have er : ∀ z, ¬ (16 ≤ z ∧ z ≤ 30) → z ≠ 0 → z ≠ 123 → B z = M z := fun z z1 z2 z3 => by rw [u2 z z3, r1 z z2, q3 z (by omega)]
  have fr : ∀ z, ¬ (16 ≤ z ∧ z ≤ 30) → z ≠ 0 → z ≠ 123 → z ≠ 121 → am_up B 121 3 1 z = M z := fun z z1 z2 z3 z4 => by rw [am_up_ne z4, er z z1 z2 z3]
  refine ⟨M 122 1, lp, M1, am_up B 121 3 1, ?_, ?_, ?_⟩
  · have e1 : M1 1 1 = M 122 1 := by rw [r1 1 (by decide), q3 1 (by omega)]; exact hR.1.2.1
    simp only [fxX9_keep, am_gd_t, am_lt_e, am_bd_s, bi_0, bi_bz, bz0, bz1, nz2, nz10, nz100, hp_gi, hp_si, ↓reduceIte, if_true, if_false, Bool.true_eq_false, Bool.false_eq_true, eq_self, reduceCtorEq, zo0, zp0_0, zp0_1, zp0_2, zp0_4, zp0_5, zp0_6, zp0_7, zp0_8, zp0_9, zp0_10, zo1, zp1_0, zp1_5, zp1_6, zp1_9, zo16, zp16_0, zp16_5, zp16_6, zp16_9, zo31, zp31_0, zp31_5, zp31_6, zp31_9, zo46, zp46_0, zp46_1, zp46_2, zo79, zp79_0, zo83, zp83_0, zp83_1, zp83_2, zo87, zp87_0, zp87_1, zo121, zp121_0, zp121_1, zp121_2, zp121_4, zp121_5, zp121_6, zp121_7, zp121_8, zp121_16, zp121_17, zp121_18, zp121_21, zp121_23, zp121_24, zp121_25, zp121_26, zp121_27, zp121_28, zp121_29, zp121_30, zp121_31, zp121_32, zp121_33, zp121_34, zp79_2, zx2, zx13, zx14, zx15, zx17, zx28, zx29, zx30, zx32, zx43, zx44, zx45, zx47, zx78, zx80, zx84, zx85, zx86, zx88, zx89, zx90, zx99, zx120, zx122, zx123, zx124, zx125, zx126, zx127, zx128, zx129, zx130, zx131, zx132, zx133, zx134, zx135, zx136, zx137, zx138, zx139, zx140, zx141, zx142, zx143, zx144, zx145, zg2, zg17, zg32, zgo3, zgo18, zgo33, zl47, zlo, zlp, zlx, zs90, zso, zsp, zsx, zt99, zto, ztp1, ztp2, ztgo, ztso, ztsp, ztsx, zc0, zi0, zc1, zi1, zc2, zi2, zc3, zi3, zc4, zi4, zc5, zi5, q1, Bool.and_self, hM1, e1]
  · have e1 : am_up B 121 3 1 122 1 = M 122 1 := by rw [fr 122 (by omega) (by decide) (by decide) (by decide)]
    simp only [fxX10_keep, am_gd_t, am_lt_e, am_bd_s, bi_0, bi_bz, bz0, bz1, nz2, nz10, nz100, hp_gi, hp_si, ↓reduceIte, if_true, if_false, Bool.true_eq_false, Bool.false_eq_true, eq_self, reduceCtorEq, zo0, zp0_0, zp0_1, zp0_2, zp0_4, zp0_5, zp0_6, zp0_7, zp0_8, zp0_9, zp0_10, zo1, zp1_0, zp1_5, zp1_6, zp1_9, zo16, zp16_0, zp16_5, zp16_6, zp16_9, zo31, zp31_0, zp31_5, zp31_6, zp31_9, zo46, zp46_0, zp46_1, zp46_2, zo79, zp79_0, zo83, zp83_0, zp83_1, zp83_2, zo87, zp87_0, zp87_1, zo121, zp121_0, zp121_1, zp121_2, zp121_4, zp121_5, zp121_6, zp121_7, zp121_8, zp121_16, zp121_17, zp121_18, zp121_21, zp121_23, zp121_24, zp121_25, zp121_26, zp121_27, zp121_28, zp121_29, zp121_30, zp121_31, zp121_32, zp121_33, zp121_34, zp79_2, zx2, zx13, zx14, zx15, zx17, zx28, zx29, zx30, zx32, zx43, zx44, zx45, zx47, zx78, zx80, zx84, zx85, zx86, zx88, zx89, zx90, zx99, zx120, zx122, zx123, zx124, zx125, zx126, zx127, zx128, zx129, zx130, zx131, zx132, zx133, zx134, zx135, zx136, zx137, zx138, zx139, zx140, zx141, zx142, zx143, zx144, zx145, zg2, zg17, zg32, zgo3, zgo18, zgo33, zl47, zlo, zlp, zlx, zs90, zso, zsp, zsx, zt99, zto, ztp1, ztp2, ztgo, ztso, ztsp, ztsx, zc0, zi0, zc1, zi1, zc2, zi2, zc3, zi3, zc4, zi4, zc5, zi5, u1, Bool.and_self, e1]
  · have e0 : am_up B 121 3 1 0 = up1 (M 0) 3 1 := by rw [am_up_ne (by decide), u2 0 (by decide), ← hM1, up_row, q3 0 (by omega)]
    have e121 : am_up B 121 3 1 121 = up1 (M 121) 3 1 := by rw [up_row, er 121 (by omega) (by decide) (by decide)]
    have e122 : am_up B 121 3 1 122 = M 122 := fr 122 (by omega) (by decide) (by decide) (by decide)
    have e123 : ∀ j, j < 1448 → am_up B 121 3 1 123 j = M 122 j := fun j hj => by rw [am_up_ne (by decide), u3, if_pos hj, r1 122 (by decide), q3 122 (by omega)]
    refine hI.guilds (fun k k1 k2 k3 k4 k5 => fr k (by omega) (by omega) k4 k2) (by rw [e0, up1_ne (by decide)]) (by rw [e121, up1_ne (by decide)]) (by rw [e121, up1_ne (by decide)]) (by rw [e122]; exact RC_congr (fun k k1 k2 => fr k (by omega) (by omega) (by omega) (by omega)) (fun k k1 k2 => fr k (by omega) (by omega) (by omega) (by omega)) hR) (by rw [e122]; exact hI.1.2) ⟨by rw [e0, e121, up1_eq, up1_eq], Or.inr ⟨by rw [e121, up1_eq], ?_, ?_, ?_⟩⟩
    · refine RC_g (g := M 122) e123 (RC_congr (fun k k1 k2 => ?_) (fun k k1 k2 => ?_) q2)
      · rw [am_up_ne (by omega), u2 k (by omega), r1 k (by omega)]
      · rw [am_up_ne (by omega), u2 k (by omega), r1 k (by omega)]
    · rw [e123 5 (by decide), e122]; exact Nat.le_refl _
    · rw [e123 2 (by decide)]; exact hI.1.2
theorem P_back : Pair (fxX9_back (some 0)) (fxX10_back (some 121)) := by
  intro lp M hI
  obtain ⟨h3, hor⟩ := hI.2.1
  rcases hor with h0 | ⟨h1, hR, h5, hd⟩
  · refine ⟨-1000000002, lp, M, M, ?_, ?_, hI⟩
    · simp only [fxX9_back, am_gd_t, am_lt_e, am_bd_s, bi_0, bi_bz, bz0, bz1, nz2, nz10, nz100, hp_gi, hp_si, ↓reduceIte, if_true, if_false, Bool.true_eq_false, Bool.false_eq_true, eq_self, reduceCtorEq, zo0, zp0_0, zp0_1, zp0_2, zp0_4, zp0_5, zp0_6, zp0_7, zp0_8, zp0_9, zp0_10, zo1, zp1_0, zp1_5, zp1_6, zp1_9, zo16, zp16_0, zp16_5, zp16_6, zp16_9, zo31, zp31_0, zp31_5, zp31_6, zp31_9, zo46, zp46_0, zp46_1, zp46_2, zo79, zp79_0, zo83, zp83_0, zp83_1, zp83_2, zo87, zp87_0, zp87_1, zo121, zp121_0, zp121_1, zp121_2, zp121_4, zp121_5, zp121_6, zp121_7, zp121_8, zp121_16, zp121_17, zp121_18, zp121_21, zp121_23, zp121_24, zp121_25, zp121_26, zp121_27, zp121_28, zp121_29, zp121_30, zp121_31, zp121_32, zp121_33, zp121_34, zp79_2, zx2, zx13, zx14, zx15, zx17, zx28, zx29, zx30, zx32, zx43, zx44, zx45, zx47, zx78, zx80, zx84, zx85, zx86, zx88, zx89, zx90, zx99, zx120, zx122, zx123, zx124, zx125, zx126, zx127, zx128, zx129, zx130, zx131, zx132, zx133, zx134, zx135, zx136, zx137, zx138, zx139, zx140, zx141, zx142, zx143, zx144, zx145, zg2, zg17, zg32, zgo3, zgo18, zgo33, zl47, zlo, zlp, zlx, zs90, zso, zsp, zsx, zt99, zto, ztp1, ztp2, ztgo, ztso, ztsp, ztsx, zc0, zi0, zc1, zi1, zc2, zi2, zc3, zi3, zc4, zi4, zc5, zi5, h3, h0]
    · simp only [fxX10_back, am_gd_t, am_lt_e, am_bd_s, bi_0, bi_bz, bz0, bz1, nz2, nz10, nz100, hp_gi, hp_si, ↓reduceIte, if_true, if_false, Bool.true_eq_false, Bool.false_eq_true, eq_self, reduceCtorEq, zo0, zp0_0, zp0_1, zp0_2, zp0_4, zp0_5, zp0_6, zp0_7, zp0_8, zp0_9, zp0_10, zo1, zp1_0, zp1_5, zp1_6, zp1_9, zo16, zp16_0, zp16_5, zp16_6, zp16_9, zo31, zp31_0, zp31_5, zp31_6, zp31_9, zo46, zp46_0, zp46_1, zp46_2, zo79, zp79_0, zo83, zp83_0, zp83_1, zp83_2, zo87, zp87_0, zp87_1, zo121, zp121_0, zp121_1, zp121_2, zp121_4, zp121_5, zp121_6, zp121_7, zp121_8, zp121_16, zp121_17, zp121_18, zp121_21, zp121_23, zp121_24, zp121_25, zp121_26, zp121_27, zp121_28, zp121_29, zp121_30, zp121_31, zp121_32, zp121_33, zp121_34, zp79_2, zx2, zx13, zx14, zx15, zx17, zx28, zx29, zx30, zx32, zx43, zx44, zx45, zx47, zx78, zx80, zx84, zx85, zx86, zx88, zx89, zx90, zx99, zx120, zx122, zx123, zx124, zx125, zx126, zx127, zx128, zx129, zx130, zx131, zx132, zx133, zx134, zx135, zx136, zx137, zx138, zx139, zx140, zx141, zx142, zx143, zx144, zx145, zg2, zg17, zg32, zgo3, zgo18, zgo33, zl47, zlo, zlp, zlx, zs90, zso, zsp, zsx, zt99, zto, ztp1, ztp2, ztgo, ztso, ztsp, ztsx, zc0, zi0, zc1, zi1, zc2, zi2, zc3, zi3, zc4, zi4, zc5, zi5, h0]
  · obtain ⟨M1, q1, q2, q3⟩ := q_take (lp := lp) gu1 gu16 (by decide) hR
    obtain ⟨B, u1, u2, u3⟩ := q_copyAll (lp := lp) (a := 123) (b := 122) (fun _ _ => zx123) (fun _ _ => zx122) (by decide) M1
    have er : ∀ z, ¬ (1 ≤ z ∧ z ≤ 15) → z ≠ 122 → B z = M z := fun z z1 z2 => by rw [u2 z z2, q3 z (by omega)]
    have e122 : ∀ j, j < 1448 → B 122 j = M 123 j := fun j hj => by rw [u3, if_pos hj, q3 123 (by omega)]
    have e123 : B 123 = M 123 := er 123 (by omega) (by decide)
    refine ⟨M 123 1, lp, M1, B, ?_, ?_, ?_⟩
    · have e1 : M1 1 1 = M 123 1 := q2.1.2.1
      simp only [fxX9_back, am_gd_t, am_lt_e, am_bd_s, bi_0, bi_bz, bz0, bz1, nz2, nz10, nz100, hp_gi, hp_si, ↓reduceIte, if_true, if_false, Bool.true_eq_false, Bool.false_eq_true, eq_self, reduceCtorEq, zo0, zp0_0, zp0_1, zp0_2, zp0_4, zp0_5, zp0_6, zp0_7, zp0_8, zp0_9, zp0_10, zo1, zp1_0, zp1_5, zp1_6, zp1_9, zo16, zp16_0, zp16_5, zp16_6, zp16_9, zo31, zp31_0, zp31_5, zp31_6, zp31_9, zo46, zp46_0, zp46_1, zp46_2, zo79, zp79_0, zo83, zp83_0, zp83_1, zp83_2, zo87, zp87_0, zp87_1, zo121, zp121_0, zp121_1, zp121_2, zp121_4, zp121_5, zp121_6, zp121_7, zp121_8, zp121_16, zp121_17, zp121_18, zp121_21, zp121_23, zp121_24, zp121_25, zp121_26, zp121_27, zp121_28, zp121_29, zp121_30, zp121_31, zp121_32, zp121_33, zp121_34, zp79_2, zx2, zx13, zx14, zx15, zx17, zx28, zx29, zx30, zx32, zx43, zx44, zx45, zx47, zx78, zx80, zx84, zx85, zx86, zx88, zx89, zx90, zx99, zx120, zx122, zx123, zx124, zx125, zx126, zx127, zx128, zx129, zx130, zx131, zx132, zx133, zx134, zx135, zx136, zx137, zx138, zx139, zx140, zx141, zx142, zx143, zx144, zx145, zg2, zg17, zg32, zgo3, zgo18, zgo33, zl47, zlo, zlp, zlx, zs90, zso, zsp, zsx, zt99, zto, ztp1, ztp2, ztgo, ztso, ztsp, ztsx, zc0, zi0, zc1, zi1, zc2, zi2, zc3, zi3, zc4, zi4, zc5, zi5, h3, h1, one0, q1, e1]
    · have e3 : M1 121 3 = 1 := by rw [q3 121 (by omega)]; exact h1
      simp only [fxX10_back, am_gd_t, am_lt_e, am_bd_s, bi_0, bi_bz, bz0, bz1, nz2, nz10, nz100, hp_gi, hp_si, ↓reduceIte, if_true, if_false, Bool.true_eq_false, Bool.false_eq_true, eq_self, reduceCtorEq, zo0, zp0_0, zp0_1, zp0_2, zp0_4, zp0_5, zp0_6, zp0_7, zp0_8, zp0_9, zp0_10, zo1, zp1_0, zp1_5, zp1_6, zp1_9, zo16, zp16_0, zp16_5, zp16_6, zp16_9, zo31, zp31_0, zp31_5, zp31_6, zp31_9, zo46, zp46_0, zp46_1, zp46_2, zo79, zp79_0, zo83, zp83_0, zp83_1, zp83_2, zo87, zp87_0, zp87_1, zo121, zp121_0, zp121_1, zp121_2, zp121_4, zp121_5, zp121_6, zp121_7, zp121_8, zp121_16, zp121_17, zp121_18, zp121_21, zp121_23, zp121_24, zp121_25, zp121_26, zp121_27, zp121_28, zp121_29, zp121_30, zp121_31, zp121_32, zp121_33, zp121_34, zp79_2, zx2, zx13, zx14, zx15, zx17, zx28, zx29, zx30, zx32, zx43, zx44, zx45, zx47, zx78, zx80, zx84, zx85, zx86, zx88, zx89, zx90, zx99, zx120, zx122, zx123, zx124, zx125, zx126, zx127, zx128, zx129, zx130, zx131, zx132, zx133, zx134, zx135, zx136, zx137, zx138, zx139, zx140, zx141, zx142, zx143, zx144, zx145, zg2, zg17, zg32, zgo3, zgo18, zgo33, zl47, zlo, zlp, zlx, zs90, zso, zsp, zsx, zt99, zto, ztp1, ztp2, ztgo, ztso, ztsp, ztsx, zc0, zi0, zc1, zi1, zc2, zi2, zc3, zi3, zc4, zi4, zc5, zi5, e3, one0, u1, e122 1 (by decide)]
    · refine hI.guilds (fun k k1 k2 k3 k4 k5 => er k (by omega) k3) (by rw [er 0 (by omega) (by decide)]) (by rw [er 121 (by omega) (by decide)]) (by rw [er 121 (by omega) (by decide)]) ?_ ?_ ⟨by rw [er 0 (by omega) (by decide), er 121 (by omega) (by decide)]; exact h3, Or.inr ⟨by rw [er 121 (by omega) (by decide)]; exact h1, ?_, ?_, ?_⟩⟩
      · refine RC_g (g := M 123) e122 (RC_congr (fun k k1 k2 => u2 k (by omega)) (fun k k1 k2 => u2 k (by omega)) q2)
      · rw [e122 2 (by decide)]; exact hd
      · rw [e123]; exact RC_congr (fun k k1 k2 => er k (by omega) (by omega)) (fun k k1 k2 => er k (by omega) (by omega)) hR
      · rw [e123, e122 5 (by decide)]; exact Nat.le_refl _
      · rw [e123]; exact hd
