/-! ===== seed, loss, turns, set, forget, worn ===== -/
theorem q_becomes {lp s : Nat} {M : Mem} (hs : s < 1448) (S v : Int32) (eS : S = nI s) : fxX10_becomes (some 121) S v (hp lp M) = some (M 122 s, hp lp (am_up M 122 s v)) := by
  subst eS
  simp only [fxX10_becomes, am_gd_t, am_lt_e, am_bd_s, bi_0, bi_bz, bz0, bz1, nz2, nz10, nz100, hp_gi, hp_si, ob_M, pm0, pm0i, in_nI hs (by omega)]
  rw [nI_clamp (by omega)]
theorem up2_row {M : Mem} {a b c d : Nat} {v w : Int32} {k : Nat} (h1 : k ≠ a) (h2 : k ≠ c) : am_up (am_up M a b v) c d w k = M k := by rw [am_up_ne h2, am_up_ne h1]
theorem P_seed (v : Int32) : Pair (fxX9_seed (some 0) v) (fxX10_seed (some 121) v) := by
  intro lp M hI
  refine ⟨M 1 4, lp, am_up M 1 4 v, am_up (am_up M 1 4 v) 122 0 v, ?_, ?_, ?_⟩
  · simp only [fxX9_seed, am_gd_t, am_lt_e, am_bd_s, bi_0, bi_bz, bz0, bz1, nz2, nz10, nz100, hp_gi, hp_si, ob_0, ob_1, pt00, pt10]
  · simp only [fxX10_seed, am_gd_t, am_lt_e, am_bd_s, bi_0, bi_bz, bz0, bz1, nz2, nz10, nz100, hp_gi, hp_si, ob_M, pm0, pm0i, q_becomes (s := 0) (by decide) (0 : Int32) v rfl]
    rw [up_nk (by decide), hI.1.1.1.1]
  · have e : am_up (am_up M 1 4 v) 122 0 v 122 = up1 (M 122) 0 v := by rw [up_row, am_up_ne (by decide)]
    have e1 : am_up (am_up M 1 4 v) 122 0 v 1 = up1 (M 1) 4 v := by rw [am_up_ne (by decide), up_row]
    refine hI.now (fun k h1 h2 => up2_row (by omega) (by omega)) ?_ ?_ ?_
    · rw [e]
      obtain ⟨a1, a2, a3, a4, a5, a6⟩ := hI.1.1.1
      refine RC_scal hI.1.1 (Or.inl rfl) ?_ (fun k h1 h2 => up2_row (by omega) (by omega)) (fun k h1 h2 => up2_row (by omega) (by omega)) ?_
      · unfold RCs
        rw [e1]
        exact ⟨by rw [up1_eq, up1_eq], a2, a3, a4, a5, a6⟩
      · exact hI.1.1.2.2.2.2.1
    · rw [e]; exact hI.1.2
    · rw [e]; exact Nat.le_refl _
theorem P_loss (v : Int32) : Pair (fxX9_loss (some 0) v) (fxX10_loss (some 121) v) := by
  intro lp M hI
  cases hv : iw v 0 100 with
  | false =>
    refine ⟨-1000000001, lp, M, M, ?_, ?_, hI⟩
    · simp only [fxX9_loss, am_gd_t, am_lt_e, am_bd_s, bi_0, bi_bz, bz0, bz1, nz2, nz10, nz100, hp_gi, hp_si, ob_0, ob_1, pt00, pt10, ↓reduceIte, if_true, if_false, Bool.true_eq_false, Bool.false_eq_true, eq_self, reduceCtorEq, q_within, hv]
    · simp only [fxX10_loss, am_gd_t, am_lt_e, am_bd_s, bi_0, bi_bz, bz0, bz1, nz2, nz10, nz100, hp_gi, hp_si, ob_M, pm0, pm0i, ↓reduceIte, if_true, if_false, Bool.true_eq_false, Bool.false_eq_true, eq_self, reduceCtorEq, q_in, hv]
  | true =>
    obtain ⟨w, hw, rfl⟩ := iw_lit 100 (b := 100) rfl (by decide) hv
    refine ⟨M 1 2, lp, am_up M 1 2 (nI w), am_up (am_up M 1 2 (nI w)) 122 3 (nI w), ?_, ?_, ?_⟩
    · simp only [fxX9_loss, am_gd_t, am_lt_e, am_bd_s, bi_0, bi_bz, bz0, bz1, nz2, nz10, nz100, hp_gi, hp_si, ob_0, ob_1, pt00, pt10, ↓reduceIte, if_true, if_false, Bool.true_eq_false, Bool.false_eq_true, eq_self, reduceCtorEq, q_within, hv]
    · simp only [fxX10_loss, am_gd_t, am_lt_e, am_bd_s, bi_0, bi_bz, bz0, bz1, nz2, nz10, nz100, hp_gi, hp_si, ob_M, pm0, pm0i, ↓reduceIte, if_true, if_false, Bool.true_eq_false, Bool.false_eq_true, eq_self, reduceCtorEq, q_in, hv, q_becomes (s := 3) (by decide) (3 : Int32) (nI w) rfl]
      rw [up_nk (by decide), hI.1.1.1.2.2.2.1]
    · have e : am_up (am_up M 1 2 (nI w)) 122 3 (nI w) 122 = up1 (M 122) 3 (nI w) := by rw [up_row, am_up_ne (by decide)]
      have e1 : am_up (am_up M 1 2 (nI w)) 122 3 (nI w) 1 = up1 (M 1) 2 (nI w) := by rw [am_up_ne (by decide), up_row]
      refine hI.now (fun k h1 h2 => up2_row (by omega) (by omega)) ?_ ?_ ?_
      · rw [e]
        obtain ⟨a1, a2, a3, a4, a5, a6⟩ := hI.1.1.1
        refine RC_scal hI.1.1 (Or.inr (Or.inr rfl)) ?_ (fun k h1 h2 => up2_row (by omega) (by omega)) (fun k h1 h2 => up2_row (by omega) (by omega)) ?_
        · unfold RCs
          rw [e1]
          exact ⟨a1, a2, a3, by rw [up1_eq, up1_eq], a5, a6⟩
        · obtain ⟨v1, v2, v3, v4, v5⟩ := hI.1.1.2.2.2.2.1
          exact ⟨v1, v2, ⟨w, hw, up1_eq _ _ _⟩, v4, v5⟩
      · rw [e]; exact hI.1.2
      · rw [e]; exact Nat.le_refl _
/-- one field of glove i changes on both sides -/
theorem RC_field {M : Mem} {gb : Nat} {g : Nat → Int32} {i j : Nat} {v : Nat} (hgu : isGu gb) (hR : RC M gb g) (hi : i < cn (g 1)) (hj : j < 6) (hv : v ≤ gmx j) (M' : Mem) (hrow : M' (gb + 2 + i) = up1 (M (gb + 2 + i)) j (nI v)) (ho : ∀ k, k ≠ gb + 2 + i → k < 121 → M' k = M k) : RC M' gb (up1 g (16 + 6 * i + j) (nI v)) := by
  obtain ⟨a1, a2, a3, a4, a5, a6⟩ := hR
  have hn := a5.n.1
  have hgb : gb ≤ 31 := by rcases hgu with rfl | rfl | rfl <;> decide
  have hgl : gb = 1 ∨ gb = 16 ∨ gb = 31 := hgu
  have e := fun (k : Nat) (h : k < 16) => up1_ne (g := g) (k := 16 + 6 * i + j) (v := nI v) (show k ≠ 16 + 6 * i + j by omega)
  refine ⟨?_, fun x hx y hy => ?_, fun x hx => ?_, RCt_congr (ho _ (by omega) (by omega)) (fun k q1 q2 => ho k (by omega) (by omega)) (by rw [e 5 (by decide)]; exact a5.t.1) (RCt_g (fun k hk => up1_ne (by omega)) (e 5 (by decide)) a4), ?_, fun x hx y hy => ?_⟩
  · unfold RCs
    rw [ho gb (by omega) (by omega), e 0 (by decide), e 1 (by decide), e 2 (by decide), e 3 (by decide), e 4 (by decide), e 5 (by decide)]
    exact a1
  · rw [e 1 (by decide)] at hx
    by_cases hxi : x = i
    · subst hxi
      rw [hrow]
      by_cases hyj : y = j
      · subst hyj
        rw [up1_eq, up1_eq]
      · rw [up1_ne hyj, up1_ne (by omega)]
        exact a2 x hx y hy
    · rw [ho (gb + 2 + x) (by omega) (by omega), up1_ne (by omega)]
      exact a2 x hx y hy
  · rw [e 4 (by decide)] at hx
    have := a5.w.1
    rw [ho (gb + 12) (by omega) (by omega), ho (gb + 13) (by omega) (by omega), e (6 + x) (by omega)]
    exact a3 x hx
  · unfold Vs
    rw [e 1 (by decide), e 2 (by decide), e 3 (by decide), e 4 (by decide), e 5 (by decide)]
    exact a5
  · rw [e 1 (by decide)] at hx
    unfold mg
    by_cases hxy : 16 + 6 * x + y = 16 + 6 * i + j
    · rw [hxy, up1_eq]
      have : y = j := by omega
      exact ⟨v, by rw [this]; exact hv, rfl⟩
    · rw [up1_ne hxy]
      exact a6 x hx y hy
theorem Inv_field {lp : Nat} {M : Mem} (hI : Inv lp M) {i j v : Nat} (hi : i < cn (M 122 1)) (hi10 : i < 10) (hj : j < 6) (hv : v ≤ gmx j) : Inv lp (am_up (am_up M (3 + i) j (nI v)) 122 (16 + 6 * i + j) (nI v)) := by
  have e : am_up (am_up M (3 + i) j (nI v)) 122 (16 + 6 * i + j) (nI v) 122 = up1 (M 122) (16 + 6 * i + j) (nI v) := by rw [up_row, am_up_ne (by omega)]
  have e1 : am_up (am_up M (3 + i) j (nI v)) 122 (16 + 6 * i + j) (nI v) (3 + i) = up1 (M (3 + i)) j (nI v) := by rw [am_up_ne (by omega), up_row]
  refine hI.now (fun k h1 h2 => up2_row (by omega) (by omega)) ?_ ?_ ?_
  · rw [e]
    exact RC_field gu1 hI.1.1 hi hj hv _ e1 (fun k h1 h2 => up2_row (by omega) (by omega))
  · rw [e, up1_ne (by omega)]; exact hI.1.2
  · rw [e, up1_ne (by omega)]; exact Nat.le_refl _
theorem nI16' (g : Nat) : ((16 : Int32) + ((6 : Int32) * nI g)) = nI (16 + 6 * g) := by
  rw [show (16 : Int32) = nI 16 from rfl, show (6 : Int32) = nI 6 from rfl, pk_mul, nI_add]
theorem P_turns (a b : Int32) : Pair (fxX9_turns (some 0) a b) (fxX10_turns (some 121) a b) := by
  intro lp M hI
  have h1 := q_h1 hI
  rcases gl_cases hI a with ha | ⟨ha, i, hi, hi10, rfl⟩
  · refine ⟨-1000000001, lp, M, M, ?_, ?_, hI⟩
    · simp only [fxX9_turns, am_gd_t, am_lt_e, am_bd_s, bi_0, bi_bz, bz0, bz1, nz2, nz10, nz100, hp_gi, hp_si, ob_0, ob_1, pt00, pt10, ↓reduceIte, if_true, if_false, Bool.true_eq_false, Bool.false_eq_true, eq_self, reduceCtorEq, h1, ha]
    · simp only [fxX10_turns, am_gd_t, am_lt_e, am_bd_s, bi_0, bi_bz, bz0, bz1, nz2, nz10, nz100, hp_gi, hp_si, ob_M, pm0, pm0i, ↓reduceIte, if_true, if_false, Bool.true_eq_false, Bool.false_eq_true, eq_self, reduceCtorEq, q_isGlove, ha]
  · obtain ⟨v1, w1⟩ := hI.1.1.gv hi
    cases hb : iw b 0 5 with
    | false =>
      refine ⟨-1000000001, lp, M, M, ?_, ?_, hI⟩
      · simp only [fxX9_turns, am_gd_t, am_lt_e, am_bd_s, bi_0, bi_bz, bz0, bz1, nz2, nz10, nz100, hp_gi, hp_si, ob_0, ob_1, pt00, pt10, ↓reduceIte, if_true, if_false, Bool.true_eq_false, Bool.false_eq_true, eq_self, reduceCtorEq, h1, ha, q_isKind, hb]
      · simp only [fxX10_turns, am_gd_t, am_lt_e, am_bd_s, bi_0, bi_bz, bz0, bz1, nz2, nz10, nz100, hp_gi, hp_si, ob_M, pm0, pm0i, ↓reduceIte, if_true, if_false, Bool.true_eq_false, Bool.false_eq_true, eq_self, reduceCtorEq, q_isGlove, ha, q_in, hb]
    | true =>
      obtain ⟨w, hw, rfl⟩ := iw_lit 5 (b := 5) rfl (by decide) hb
      refine ⟨M (3 + i) 0, lp, am_up M (3 + i) 0 (nI w), _, ?_, ?_, Inv_field hI hi hi10 (show 0 < 6 by decide) hw⟩
      · simp only [fxX9_turns, am_gd_t, am_lt_e, am_bd_s, bi_0, bi_bz, bz0, bz1, nz2, nz10, nz100, hp_gi, hp_si, ob_0, ob_1, pt00, pt10, ↓reduceIte, if_true, if_false, Bool.true_eq_false, Bool.false_eq_true, eq_self, reduceCtorEq, h1, ha, q_isKind, hb, x2 hi10, g2 hi10, og3 hi10]
      · have e1 : iw (nI i) 0 (am_up M (3 + i) 0 (nI w) 122 1 - 1) = true := by rw [up_nk (by omega)]; exact ha
        simp only [fxX10_turns, am_gd_t, am_lt_e, am_bd_s, bi_0, bi_bz, bz0, bz1, nz2, nz10, nz100, hp_gi, hp_si, ob_M, pm0, pm0i, ↓reduceIte, if_true, if_false, Bool.true_eq_false, Bool.false_eq_true, eq_self, reduceCtorEq, q_isGlove, e1, q_in, hb, nI16', q_becomes (s := 16 + 6 * i) (by omega) (nI (16 + 6 * i)) (nI w) rfl]
        rw [up_nk (by omega), show M (3 + i) 0 = M 122 (16 + 6 * i + 0) from w1 0 (by decide)]
        rfl
theorem mostC (j : Nat) (h1 : 1 ≤ j) (h2 : j ≤ 5) (h : am_H) : fxX9_mostOfTrait (nI j) h = some (nI (gmx j), h) ∧ fxX10_mostOf (nI j) h = some (nI (gmx j), h) := by
  rcases (show j = 1 ∨ j = 2 ∨ j = 3 ∨ j = 4 ∨ j = 5 by omega) with rfl | rfl | rfl | rfl | rfl <;> exact ⟨rfl, rfl⟩
theorem q_change {lp k : Nat} {M : Mem} (hk : isG k) {j v : Nat} (hj : 1 ≤ j) (hj6 : j < 6) (hv : v ≤ gmx j) : fxX1_changeTrait (some k) (nI j) (nI v) (hp lp M) = some ((), hp lp (am_up M k j (nI v))) := by
  rcases (show j = 1 ∨ j = 2 ∨ j = 3 ∨ j = 4 ∨ j = 5 by omega) with rfl | rfl | rfl | rfl | rfl
  · simp only [fxX1_changeTrait, ob_g hk, am_gd_t, am_lt_e, am_bd_s, bi_0, bi_bz, bz0, bz1, nz2, nz10, nz100, hp_gi, hp_si, show (nI 1 = (1 : Int32)) = True from by decide, ↓reduceIte, if_true, if_false, Bool.true_eq_false, Bool.false_eq_true, eq_self, reduceCtorEq]
  · simp only [fxX1_changeTrait, ob_g hk, am_gd_t, am_lt_e, am_bd_s, bi_0, bi_bz, bz0, bz1, nz2, nz10, nz100, hp_gi, hp_si, show (nI 2 = (1 : Int32)) = False from by decide, show (nI 2 = (2 : Int32)) = True from by decide, ↓reduceIte, if_true, if_false, Bool.true_eq_false, Bool.false_eq_true, eq_self, reduceCtorEq]
  · simp only [fxX1_changeTrait, ob_g hk, am_gd_t, am_lt_e, am_bd_s, bi_0, bi_bz, bz0, bz1, nz2, nz10, nz100, hp_gi, hp_si, show (nI 3 = (1 : Int32)) = False from by decide, show (nI 3 = (2 : Int32)) = False from by decide, show (nI 3 = (3 : Int32)) = True from by decide, ↓reduceIte, if_true, if_false, Bool.true_eq_false, Bool.false_eq_true, eq_self, reduceCtorEq]
  · simp only [fxX1_changeTrait, ob_g hk, am_gd_t, am_lt_e, am_bd_s, bi_0, bi_bz, bz0, bz1, nz2, nz10, nz100, hp_gi, hp_si, show (nI 4 = (1 : Int32)) = False from by decide, show (nI 4 = (2 : Int32)) = False from by decide, show (nI 4 = (3 : Int32)) = False from by decide, show (nI 4 = (4 : Int32)) = True from by decide, ↓reduceIte, if_true, if_false, Bool.true_eq_false, Bool.false_eq_true, eq_self, reduceCtorEq]
  · have hv : v ≤ 1 := hv
    rcases (show v = 0 ∨ v = 1 by omega) with rfl | rfl
    · simp only [fxX1_changeTrait, fxX1_changeTrait_b75, ob_g hk, am_gd_t, am_lt_e, am_bd_s, bi_0, bi_bz, bz0, bz1, nz2, nz10, nz100, hp_gi, hp_si, show (nI 5 = (1 : Int32)) = False from by decide, show (nI 5 = (2 : Int32)) = False from by decide, show (nI 5 = (3 : Int32)) = False from by decide, show (nI 5 = (4 : Int32)) = False from by decide, show (nI 0 = (1 : Int32)) = False from by decide, ↓reduceIte, if_true, if_false, Bool.true_eq_false, Bool.false_eq_true, eq_self, reduceCtorEq, Bool.and_self]
      rfl
    · simp only [fxX1_changeTrait, fxX1_changeTrait_b75, ob_g hk, am_gd_t, am_lt_e, am_bd_s, bi_0, bi_bz, bz0, bz1, nz2, nz10, nz100, hp_gi, hp_si, show (nI 5 = (1 : Int32)) = False from by decide, show (nI 5 = (2 : Int32)) = False from by decide, show (nI 5 = (3 : Int32)) = False from by decide, show (nI 5 = (4 : Int32)) = False from by decide, show (nI 1 = (1 : Int32)) = True from by decide, ↓reduceIte, if_true, if_false, Bool.true_eq_false, Bool.false_eq_true, eq_self, reduceCtorEq, Bool.and_self]
      rfl
theorem P_set (a b c : Int32) : Pair (fxX9_set (some 0) a b c) (fxX10_set (some 121) a b c) := by
  intro lp M hI
  have h1 := q_h1 hI
  rcases gl_cases hI a with ha | ⟨ha, i, hi, hi10, rfl⟩
  · refine ⟨-1000000001, lp, M, M, ?_, ?_, hI⟩
    · simp only [fxX9_set, am_gd_t, am_lt_e, am_bd_s, bi_0, bi_bz, bz0, bz1, nz2, nz10, nz100, hp_gi, hp_si, ob_0, ob_1, pt00, pt10, ↓reduceIte, if_true, if_false, Bool.true_eq_false, Bool.false_eq_true, eq_self, reduceCtorEq, h1, ha]
    · simp only [fxX10_set, am_gd_t, am_lt_e, am_bd_s, bi_0, bi_bz, bz0, bz1, nz2, nz10, nz100, hp_gi, hp_si, ob_M, pm0, pm0i, ↓reduceIte, if_true, if_false, Bool.true_eq_false, Bool.false_eq_true, eq_self, reduceCtorEq, q_isGlove, ha]
  · obtain ⟨v1, w1⟩ := hI.1.1.gv hi
    cases hb : iw b 1 5 with
    | false =>
      refine ⟨-1000000001, lp, M, M, ?_, ?_, hI⟩
      · simp only [fxX9_set, am_gd_t, am_lt_e, am_bd_s, bi_0, bi_bz, bz0, bz1, nz2, nz10, nz100, hp_gi, hp_si, ob_0, ob_1, pt00, pt10, ↓reduceIte, if_true, if_false, Bool.true_eq_false, Bool.false_eq_true, eq_self, reduceCtorEq, h1, ha, q_within, hb]
      · simp only [fxX10_set, am_gd_t, am_lt_e, am_bd_s, bi_0, bi_bz, bz0, bz1, nz2, nz10, nz100, hp_gi, hp_si, ob_M, pm0, pm0i, ↓reduceIte, if_true, if_false, Bool.true_eq_false, Bool.false_eq_true, eq_self, reduceCtorEq, q_isGlove, ha, q_in, hb]
    | true =>
      have hb2 : iw b 0 5 = true := by
        simp only [iw, Bool.and_eq_true, decide_eq_true_eq] at hb ⊢
        exact ⟨Int32.le_trans (by decide) hb.1, hb.2⟩
      obtain ⟨j, hj, rfl⟩ := iw_lit 5 (b := 5) rfl (by decide) hb2
      have hj1 : 1 ≤ j := by
        rcases Nat.eq_zero_or_pos j with rfl | q
        · revert hb; decide
        · exact q
      obtain ⟨m1, m2⟩ := mostC j hj1 hj (hp lp M)
      have hgx : gmx j ≤ 99 := by rcases (show j = 1 ∨ j = 2 ∨ j = 3 ∨ j = 4 ∨ j = 5 by omega) with rfl | rfl | rfl | rfl | rfl <;> decide
      cases hc : iw c 0 (nI (gmx j)) with
      | false =>
        refine ⟨-1000000001, lp, M, M, ?_, ?_, hI⟩
        · simp only [fxX9_set, am_gd_t, am_lt_e, am_bd_s, bi_0, bi_bz, bz0, bz1, nz2, nz10, nz100, hp_gi, hp_si, ob_0, ob_1, pt00, pt10, ↓reduceIte, if_true, if_false, Bool.true_eq_false, Bool.false_eq_true, eq_self, reduceCtorEq, h1, ha, q_within, hb, m1, hc]
        · simp only [fxX10_set, am_gd_t, am_lt_e, am_bd_s, bi_0, bi_bz, bz0, bz1, nz2, nz10, nz100, hp_gi, hp_si, ob_M, pm0, pm0i, ↓reduceIte, if_true, if_false, Bool.true_eq_false, Bool.false_eq_true, eq_self, reduceCtorEq, q_isGlove, ha, q_in, hb, m2, hc]
      | true =>
        obtain ⟨w, hw, rfl⟩ := iw_lit (gmx j) (b := nI (gmx j)) rfl (by omega) hc
        refine ⟨M (3 + i) j, lp, am_up M (3 + i) j (nI w), _, ?_, ?_, Inv_field hI hi hi10 (show j < 6 by omega) hw⟩
        · simp only [fxX9_set, am_gd_t, am_lt_e, am_bd_s, bi_0, bi_bz, bz0, bz1, nz2, nz10, nz100, hp_gi, hp_si, ob_0, ob_1, pt00, pt10, ↓reduceIte, if_true, if_false, Bool.true_eq_false, Bool.false_eq_true, eq_self, reduceCtorEq, h1, ha, q_within, hb, m1, hc, x2 hi10, g2 hi10, og3 hi10, q_trait (isG3 hi10) v1 hj1 (show j < 6 by omega), q_change (isG3 hi10) hj1 (show j < 6 by omega) hw]
        · have e1 : iw (nI i) 0 (am_up M (3 + i) j (nI w) 122 1 - 1) = true := by rw [up_nk (by omega)]; exact ha
          simp only [fxX10_set, am_gd_t, am_lt_e, am_bd_s, bi_0, bi_bz, bz0, bz1, nz2, nz10, nz100, hp_gi, hp_si, ob_M, pm0, pm0i, ↓reduceIte, if_true, if_false, Bool.true_eq_false, Bool.false_eq_true, eq_self, reduceCtorEq, q_isGlove, e1, q_in, hb, (mostC j hj1 hj (hp lp (am_up M (3 + i) j (nI w)))).2, hc, nI16, q_becomes (s := 16 + 6 * i + j) (by omega) (nI (16 + 6 * i + j)) (nI w) rfl]
          rw [up_nk (by omega), show M (3 + i) j = M 122 (16 + 6 * i + j) from w1 j (by omega)]
