/-! ===== worn, forget, tell, trim, why ===== -/
theorem P_forget : Pair (fxX9_forget (some 0)) (fxX10_forget (some 121)) := by
  intro lp M hI
  refine ⟨M 1 7, lp, am_up M 1 7 0, am_up (am_up M 1 7 0) 122 4 0, ?_, ?_, ?_⟩
  · simp only [fxX9_forget, am_gd_t, am_lt_e, am_bd_s, bi_0, bi_bz, bz0, bz1, nz2, nz10, nz100, hp_gi, hp_si, ob_0, ob_1, pt00, pt10]
  · simp only [fxX10_forget, am_gd_t, am_lt_e, am_bd_s, bi_0, bi_bz, bz0, bz1, nz2, nz10, nz100, hp_gi, hp_si, ob_M, pm0, pm0i, q_becomes (s := 4) (by decide) (4 : Int32) 0 rfl]
    rw [up_nk (by decide), hI.1.1.1.2.2.2.2.1]
  · have e : am_up (am_up M 1 7 0) 122 4 0 122 = up1 (M 122) 4 0 := by rw [up_row, am_up_ne (by decide)]
    have e1 : am_up (am_up M 1 7 0) 122 4 0 1 = up1 (M 1) 7 0 := by rw [am_up_ne (by decide), up_row]
    have er := fun (k : Nat) (h1 : k ≠ 1) (h2 : k ≠ 122) => up2_row (M := M) (b := 7) (d := 4) (v := 0) (w := 0) h1 h2
    obtain ⟨⟨b1, b2, b3, b4, b5, b6⟩, a2, a3, a4, a5, a6⟩ := hI.1.1
    refine hI.now (fun k h1 h2 => er k (by omega) h2) ?_ ?_ ?_
    · rw [e]
      refine ⟨?_, fun i hi j hj => ?_, fun i hi => ?_, RCt_congr (er 15 (by decide) (by decide)) (fun k h1 h2 => er k (by omega) (by omega)) a5.t.1 (RCt_g (fun k hk => up1_ne (by omega)) rfl a4), ?_, fun i hi j hj => ?_⟩
      · unfold RCs
        rw [e1]
        exact ⟨b1, b2, b3, b4, rfl, b6⟩
      · have := a5.n.1
        have hi : i < cn (M 122 1) := hi
        rw [er _ (by omega) (by omega), up1_ne (by omega)]
        exact a2 i hi j hj
      · exact absurd hi (Nat.not_lt_zero i)
      · obtain ⟨v1, v2, v3, v4, v5⟩ := a5
        exact ⟨v1, v2, v3, ⟨0, by decide, rfl⟩, v5⟩
      · have := a6 i hi j hj
        unfold mg at this ⊢
        rw [up1_ne (by omega)]
        exact this
    · rw [e]; exact hI.1.2
    · rw [e]; exact Nat.le_refl _
theorem pt15 {lp : Nat} {M : Mem} : am_gr (hp lp M) (some 1) 5 = some 13 := Eq.trans rfl rfl
theorem pt16 {lp : Nat} {M : Mem} : am_gr (hp lp M) (some 1) 6 = some 14 := Eq.trans rfl rfl
theorem x13 {lp : Nat} {M : Mem} {i : Int32} : am_ix (hp lp M) (some 13) 0 i = am_in i 10 := Eq.trans rfl rfl
theorem x14 {lp : Nat} {M : Mem} {i : Int32} : am_ix (hp lp M) (some 14) 0 i = am_in i 10 := Eq.trans rfl rfl
theorem P_worn (a b : Int32) : Pair (fxX9_worn (some 0) a b) (fxX10_worn (some 121) a b) := by
  intro lp M hI
  obtain ⟨⟨b1, b2, b3, b4, b5, b6⟩, a2, a3, a4, a5, a6⟩ := hI.1.1
  obtain ⟨hw, ew⟩ := a5.w
  cases ha : iw a 0 4 with
  | false => exact ⟨-1000000001, lp, M, M, by simp only [fxX9_worn, am_gd_t, am_lt_e, am_bd_s, bi_0, bi_bz, bz0, bz1, nz2, nz10, nz100, hp_gi, hp_si, ob_0, ob_1, pt00, pt10, ↓reduceIte, if_true, if_false, Bool.true_eq_false, Bool.false_eq_true, eq_self, reduceCtorEq, q_isWord, ha], by simp only [fxX10_worn, am_gd_t, am_lt_e, am_bd_s, bi_0, bi_bz, bz0, bz1, nz2, nz10, nz100, hp_gi, hp_si, ob_M, pm0, pm0i, ↓reduceIte, if_true, if_false, Bool.true_eq_false, Bool.false_eq_true, eq_self, reduceCtorEq, q_misWord, ha], hI⟩
  | true =>
  cases hb : iw b 0 4 with
  | false => exact ⟨-1000000001, lp, M, M, by simp only [fxX9_worn, am_gd_t, am_lt_e, am_bd_s, bi_0, bi_bz, bz0, bz1, nz2, nz10, nz100, hp_gi, hp_si, ob_0, ob_1, pt00, pt10, ↓reduceIte, if_true, if_false, Bool.true_eq_false, Bool.false_eq_true, eq_self, reduceCtorEq, q_isWord, ha, hb], by simp only [fxX10_worn, am_gd_t, am_lt_e, am_bd_s, bi_0, bi_bz, bz0, bz1, nz2, nz10, nz100, hp_gi, hp_si, ob_M, pm0, pm0i, ↓reduceIte, if_true, if_false, Bool.true_eq_false, Bool.false_eq_true, eq_self, reduceCtorEq, q_misWord, ha, hb], hI⟩
  | true =>
  by_cases h10 : cn (M 122 4) = 10
  · have h9 : M 122 4 = 10 := by rw [ew, h10]; rfl
    refine ⟨-1000000003, lp, M, M, ?_, ?_, hI⟩
    · simp only [fxX9_worn, fxX2_addWorn, am_gd_t, am_lt_e, am_bd_s, bi_0, bi_bz, bz0, bz1, nz2, nz10, nz100, hp_gi, hp_si, ob_0, ob_1, pt00, pt10, ↓reduceIte, if_true, if_false, Bool.true_eq_false, Bool.false_eq_true, eq_self, reduceCtorEq, q_isWord, ha, hb, b5, h9, show ((10 : Int32) < 10) = False from by decide]
    · simp only [fxX10_worn, am_gd_t, am_lt_e, am_bd_s, bi_0, bi_bz, bz0, bz1, nz2, nz10, nz100, hp_gi, hp_si, ob_M, pm0, pm0i, ↓reduceIte, if_true, if_false, Bool.true_eq_false, Bool.false_eq_true, eq_self, reduceCtorEq, q_misWord, ha, hb, show am_in (4 : Int32) 1448 = true from rfl, show (4 : Int32).toNatClampNeg = 4 from rfl, h9]
  · obtain ⟨a', la, rfl⟩ := iw_lit 4 (b := 4) rfl (by decide) ha
    obtain ⟨b', lb, rfl⟩ := iw_lit 4 (b := 4) rfl (by decide) hb
    generalize hwn : cn (M 122 4) = w at *
    have e7 : M 1 7 = nI w := b5.trans ew
    have c1 : (nI w < (10 : Int32)) = True := by
      simp only [eq_iff_iff, iff_true]
      exact nI_lt (a := w) (b := 10) (by omega) (by decide)
    have c2 : (nI w = (10 : Int32)) = False := by
      simp only [eq_iff_iff, iff_false]
      exact fun q => h10 ((nI_eq (a := w) (b := 10) (by omega) (by decide)).mp q)
    generalize hM1 : am_up (am_up (am_up M 13 w (nI a')) 14 w (nI b')) 1 7 (nI (w + 1)) = M1
    have r122 : M1 122 = M 122 := by rw [← hM1, am_up_ne (by decide), am_up_ne (by decide), am_up_ne (by decide)]
    have e6w : (6 : Int32) + nI w = nI (6 + w) := nI_add 6 w
    have e10 : ((10 : Int32) * nI a') + nI b' = nI (10 * a' + b') := by rw [show (10 : Int32) = nI 10 from rfl, pk_mul, nI_add]
    refine ⟨nI (w + 1), lp, M1, am_up (am_up M1 122 (6 + w) (nI (10 * a' + b'))) 122 4 (nI (w + 1)), ?_, ?_, ?_⟩
    · simp only [fxX9_worn, fxX2_addWorn, am_gd_t, am_lt_e, am_bd_s, bi_0, bi_bz, bz0, bz1, nz2, nz10, nz100, hp_gi, hp_si, ob_0, ob_1, pt00, pt10, ↓reduceIte, if_true, if_false, Bool.true_eq_false, Bool.false_eq_true, eq_self, reduceCtorEq, q_isWord, ha, hb, e7, c1, pt15, pt16, x13, x14, in_nI (show w < 10 by omega) (by decide), nI_clamp (show w < 2 ^ 31 by omega), up_nk (show (1 : Nat) ≠ 13 by decide), up_nk (show (1 : Nat) ≠ 14 by decide), up_eq, nI_1, hM1]
      rw [show M1 1 7 = nI (w + 1) by rw [← hM1, up_eq]]
    · have e4 : M1 122 4 = nI w := by rw [r122]; exact ew
      simp only [fxX10_worn, am_gd_t, am_lt_e, am_bd_s, bi_0, bi_bz, bz0, bz1, nz2, nz10, nz100, hp_gi, hp_si, ob_M, pm0, pm0i, ↓reduceIte, if_true, if_false, Bool.true_eq_false, Bool.false_eq_true, eq_self, reduceCtorEq, q_misWord, ha, hb, show am_in (4 : Int32) 1448 = true from rfl, show (4 : Int32).toNatClampNeg = 4 from rfl, e4, c2, e6w, e10, in_nI (show 6 + w < 1448 by omega) (by decide), nI_clamp (show 6 + w < 2 ^ 31 by omega), up_nj (show (4 : Nat) ≠ 6 + w by omega), up_eq, nI_1]
    · have e : am_up (am_up M1 122 (6 + w) (nI (10 * a' + b'))) 122 4 (nI (w + 1)) 122 = up1 (up1 (M 122) (6 + w) (nI (10 * a' + b'))) 4 (nI (w + 1)) := by rw [up_row, up_row, r122]
      have er := fun (k : Nat) (h1 : k ≠ 1) (h13 : k ≠ 13) (h14 : k ≠ 14) (h2 : k ≠ 122) => (show am_up (am_up M1 122 (6 + w) (nI (10 * a' + b'))) 122 4 (nI (w + 1)) k = M k by rw [am_up_ne h2, am_up_ne h2, ← hM1, am_up_ne h1, am_up_ne h14, am_up_ne h13])
      have r1 : am_up (am_up M1 122 (6 + w) (nI (10 * a' + b'))) 122 4 (nI (w + 1)) 1 = up1 (M 1) 7 (nI (w + 1)) := by rw [am_up_ne (by decide), am_up_ne (by decide), ← hM1, up_row, am_up_ne (by decide), am_up_ne (by decide)]
      have r13 : am_up (am_up M1 122 (6 + w) (nI (10 * a' + b'))) 122 4 (nI (w + 1)) 13 = up1 (M 13) w (nI a') := by rw [am_up_ne (by decide), am_up_ne (by decide), ← hM1, am_up_ne (by decide), am_up_ne (by decide), up_row]
      have r14 : am_up (am_up M1 122 (6 + w) (nI (10 * a' + b'))) 122 4 (nI (w + 1)) 14 = up1 (M 14) w (nI b') := by rw [am_up_ne (by decide), am_up_ne (by decide), ← hM1, am_up_ne (by decide), up_row, am_up_ne (by decide)]
      have g0 := fun (k : Nat) (h4 : k ≠ 4) (h6 : k ≠ 6 + w) => (show up1 (up1 (M 122) (6 + w) (nI (10 * a' + b'))) 4 (nI (w + 1)) k = M 122 k by rw [up1_ne h4, up1_ne h6])
      refine hI.now (fun k h1 h2 => er k (by omega) (by omega) (by omega) h2) ?_ ?_ ?_
      · rw [e]
        refine ⟨?_, fun i hi j hj => ?_, fun i hi => ?_, RCt_congr (er 15 (by decide) (by decide) (by decide) (by decide)) (fun k h1 h2 => er k (by omega) (by omega) (by omega) (by omega)) (by rw [g0 5 (by decide) (by omega)]; exact a5.t.1) (RCt_g (fun k hk => g0 k (by omega) (by omega)) (g0 5 (by decide) (by omega)) a4), ?_, fun i hi j hj => ?_⟩
        · unfold RCs
          rw [r1, g0 0 (by decide) (by omega), g0 1 (by decide) (by omega), g0 2 (by decide) (by omega), g0 3 (by decide) (by omega), g0 5 (by decide) (by omega), up1_eq]
          exact ⟨b1, b2, b3, b4, rfl, b6⟩
        · rw [g0 1 (by decide) (by omega)] at hi
          have := a5.n.1
          rw [er _ (by omega) (by omega) (by omega) (by omega), g0 _ (by omega) (by omega)]
          exact a2 i hi j hj
        · rw [up1_eq, cn_nI (by omega)] at hi
          show ∃ a b, a ≤ 4 ∧ b ≤ 4 ∧ am_up _ 122 4 _ 13 i = nI a ∧ am_up _ 122 4 _ 14 i = nI b ∧ _
          rw [r13, r14]
          by_cases hiw : i = w
          · subst hiw
            exact ⟨a', b', la, lb, up1_eq _ _ _, up1_eq _ _ _, by rw [up1_ne (by omega), up1_eq]⟩
          · rw [up1_ne hiw, up1_ne hiw, g0 _ (by omega) (by omega)]
            exact a3 i (by omega)
        · obtain ⟨v1, v2, v3, v4, v5⟩ := a5
          refine ⟨by rw [g0 1 (by decide) (by omega)]; exact v1, by rw [g0 2 (by decide) (by omega)]; exact v2, by rw [g0 3 (by decide) (by omega)]; exact v3, ⟨w + 1, by omega, up1_eq _ _ _⟩, by rw [g0 5 (by decide) (by omega)]; exact v5⟩
        · rw [g0 1 (by decide) (by omega)] at hi
          have := a6 i hi j hj
          unfold mg at this ⊢
          rw [g0 _ (by omega) (by omega)]
          exact this
      · rw [e, g0 2 (by decide) (by omega)]; exact hI.1.2
      · rw [e, g0 5 (by decide) (by omega)]; exact Nat.le_refl _

/-- all but the tape's length and bytes -/
theorem Inv.tape {lp : Nat} {M M' : Mem} (hI : Inv lp M) (h1 : ∀ k, k ≠ 79 → k ≠ 80 → k ≠ 121 → k ≠ 129 → M' k = M k) (h3 : M' 121 3 = M 121 3) (h4 : M' 121 35 = M 121 35) (ht : RT M') : Inv lp M' := by
  obtain ⟨⟨a1, a0⟩, a2, a3, a4, a5, a6, a7, a8⟩ := hI
  have e := fun (k : Nat) (q1 : k ≠ 79) (q2 : k ≠ 80) (q3 : k ≠ 121) (q4 : k ≠ 129) => h1 k q1 q2 q3 q4
  refine ⟨⟨by rw [e 122 (by decide) (by decide) (by decide) (by decide)]; exact RC_congr (fun k _ _ => e k (by omega) (by omega) (by omega) (by omega)) (fun k _ _ => e k (by omega) (by omega) (by omega) (by omega)) a1, by rw [e 122 (by decide) (by decide) (by decide) (by decide)]; exact a0⟩, RI_congr (fun k _ _ => e k (by omega) (by omega) (by omega) (by omega)) (fun k _ _ => e k (by omega) (by omega) (by omega) (by omega)) (e 123 (by omega) (by omega) (by omega) (by omega)) (by rw [e 0 (by omega) (by omega) (by omega) (by omega)]) h3 (by rw [e 122 (by decide) (by decide) (by decide) (by decide)]; exact Nat.le_refl _) a2, ht, RW_congr (e 120 (by omega) (by omega) (by omega) (by omega)) (e 145 (by omega) (by omega) (by omega) (by omega)) (by rw [e 0 (by omega) (by omega) (by omega) (by omega)]) h4 a4, RS_congr (fun k _ _ => e k (by omega) (by omega) (by omega) (by omega)) (fun k _ _ => e k (by omega) (by omega) (by omega) (by omega)) a5, RL_congr (fun k _ _ => e k (by omega) (by omega) (by omega) (by omega)) (fun k _ _ => e k (by omega) (by omega) (by omega) (by omega)) a6, RX_congr (e 130 (by omega) (by omega) (by omega) (by omega)) (e 131 (by omega) (by omega) (by omega) (by omega)) (e 88 (by omega) (by omega) (by omega) (by omega)) a7, a8⟩
theorem pt05 {lp : Nat} {M : Mem} : am_gr (hp lp M) (some 0) 5 = some 79 := Eq.trans rfl rfl
theorem ob_79 {lp : Nat} {M : Mem} : am_ob (hp lp M) (some 79) 8 = true := Eq.trans rfl rfl
theorem P_trim (n : Int32) : Pair (fxX9_trim (some 0) n) (fxX10_trim (some 121) n) := by
  intro lp M hI
  obtain ⟨m, hm, e1, e2, e3⟩ := hI.2.2.1
  cases hv : iw n 0 (nI m) with
  | false => exact ⟨-1000000001, lp, M, M, by simp only [fxX9_trim, am_gd_t, am_lt_e, am_bd_s, bi_0, bi_bz, bz0, bz1, nz2, nz10, nz100, hp_gi, hp_si, ob_0, ob_1, pt00, pt10, ↓reduceIte, if_true, if_false, Bool.true_eq_false, Bool.false_eq_true, eq_self, reduceCtorEq, pt05, ob_79, q_within, e1, hv], by simp only [fxX10_trim, am_gd_t, am_lt_e, am_bd_s, bi_0, bi_bz, bz0, bz1, nz2, nz10, nz100, hp_gi, hp_si, ob_M, pm0, pm0i, ↓reduceIte, if_true, if_false, Bool.true_eq_false, Bool.false_eq_true, eq_self, reduceCtorEq, q_in, e2, hv], hI⟩
  | true =>
    obtain ⟨j, hj, rfl⟩ := iw_lit m (b := nI m) rfl (by omega) hv
    refine ⟨nI j, lp, am_up M 79 1 (nI j), am_up (am_up M 79 1 (nI j)) 121 9 (nI j), ?_, ?_, ?_⟩
    · simp only [fxX9_trim, am_gd_t, am_lt_e, am_bd_s, bi_0, bi_bz, bz0, bz1, nz2, nz10, nz100, hp_gi, hp_si, ob_0, ob_1, pt00, pt10, ↓reduceIte, if_true, if_false, Bool.true_eq_false, Bool.false_eq_true, eq_self, reduceCtorEq, pt05, ob_79, q_within, e1, hv]
    · simp only [fxX10_trim, am_gd_t, am_lt_e, am_bd_s, bi_0, bi_bz, bz0, bz1, nz2, nz10, nz100, hp_gi, hp_si, ob_M, pm0, pm0i, ↓reduceIte, if_true, if_false, Bool.true_eq_false, Bool.false_eq_true, eq_self, reduceCtorEq, q_in, up_nk (show (121 : Nat) ≠ 79 by decide), e2, hv]
    · refine hI.tape (fun k h1 h2 h3 h4 => up2_row h1 h3) (by rw [up_nj (by decide), up_nk (by decide)]) (by rw [up_nj (by decide), up_nk (by decide)]) ?_
      refine ⟨j, by omega, by rw [up_nk (by decide), up_eq], by rw [up_eq], fun i hi => ?_⟩
      rw [up2_row (by decide) (by decide), up2_row (by decide) (by decide)]
      exact e3 i (by omega)
/-- all but the numbers that wait -/
theorem Inv.wait {lp : Nat} {M M' : Mem} (hI : Inv lp M) (h1 : ∀ k, k ≠ 0 → k ≠ 120 → k ≠ 121 → k ≠ 145 → M' k = M k) (h0 : M' 0 3 = M 0 3) (h3 : M' 121 3 = M 121 3) (h4 : M' 121 9 = M 121 9) (ht : RW M') : Inv lp M' := by
  obtain ⟨⟨a1, a0⟩, a2, a3, a4, a5, a6, a7, a8⟩ := hI
  have e := fun (k : Nat) (q1 : k ≠ 0) (q2 : k ≠ 120) (q3 : k ≠ 121) (q4 : k ≠ 145) => h1 k q1 q2 q3 q4
  refine ⟨⟨by rw [e 122 (by decide) (by decide) (by decide) (by decide)]; exact RC_congr (fun k _ _ => e k (by omega) (by omega) (by omega) (by omega)) (fun k _ _ => e k (by omega) (by omega) (by omega) (by omega)) a1, by rw [e 122 (by decide) (by decide) (by decide) (by decide)]; exact a0⟩, RI_congr (fun k _ _ => e k (by omega) (by omega) (by omega) (by omega)) (fun k _ _ => e k (by omega) (by omega) (by omega) (by omega)) (e 123 (by omega) (by omega) (by omega) (by omega)) h0 h3 (by rw [e 122 (by decide) (by decide) (by decide) (by decide)]; exact Nat.le_refl _) a2, RT_congr (e 80 (by omega) (by omega) (by omega) (by omega)) (e 129 (by omega) (by omega) (by omega) (by omega)) (by rw [e 79 (by omega) (by omega) (by omega) (by omega)]) h4 a3, ht, RS_congr (fun k _ _ => e k (by omega) (by omega) (by omega) (by omega)) (fun k _ _ => e k (by omega) (by omega) (by omega) (by omega)) a5, RL_congr (fun k _ _ => e k (by omega) (by omega) (by omega) (by omega)) (fun k _ _ => e k (by omega) (by omega) (by omega) (by omega)) a6, RX_congr (e 130 (by omega) (by omega) (by omega) (by omega)) (e 131 (by omega) (by omega) (by omega) (by omega)) (e 88 (by omega) (by omega) (by omega) (by omega)) a7, a8⟩
theorem pt010 {lp : Nat} {M : Mem} : am_gr (hp lp M) (some 0) 10 = some 120 := Eq.trans rfl rfl
theorem x120 {lp : Nat} {M : Mem} {i : Int32} : am_ix (hp lp M) (some 120) 0 i = am_in i 60 := Eq.trans rfl rfl
theorem pm34 {lp : Nat} {M : Mem} : am_gr (hp lp M) (some 121) 34 = some 145 := Eq.trans rfl rfl
theorem x145 {lp : Nat} {M : Mem} {i : Int32} : am_ix (hp lp M) (some 145) 0 i = am_in i 60 := Eq.trans rfl rfl
theorem P_tell (v : Int32) : Pair (fxX9_tell (some 0) v) (fxX10_tell (some 121) v) := by
  intro lp M hI
  obtain ⟨m, hm, e1, e2, e3⟩ := hI.2.2.2.1
  by_cases h60 : m = 60
  · subst h60
    have f1 : M 0 11 = 60 := e1
    have f2 : M 121 35 = 60 := e2
    refine ⟨-1000000003, lp, M, M, ?_, ?_, hI⟩
    · simp only [fxX9_tell, am_gd_t, am_lt_e, am_bd_s, bi_0, bi_bz, bz0, bz1, nz2, nz10, nz100, hp_gi, hp_si, ob_0, ob_1, pt00, pt10, ↓reduceIte, if_true, if_false, Bool.true_eq_false, Bool.false_eq_true, eq_self, reduceCtorEq, f1, show ((60 : Int32) < 60) = False from by decide]
    · simp only [fxX10_tell, am_gd_t, am_lt_e, am_bd_s, bi_0, bi_bz, bz0, bz1, nz2, nz10, nz100, hp_gi, hp_si, ob_M, pm0, pm0i, ↓reduceIte, if_true, if_false, Bool.true_eq_false, Bool.false_eq_true, eq_self, reduceCtorEq, f2]
  · have c1 : (nI m < (60 : Int32)) = True := by
      simp only [eq_iff_iff, iff_true]
      exact nI_lt (a := m) (b := 60) (by omega) (by decide)
    have c2 : (nI m = (60 : Int32)) = False := by
      simp only [eq_iff_iff, iff_false]
      exact fun q => h60 ((nI_eq (a := m) (b := 60) (by omega) (by decide)).mp q)
    generalize hM1 : am_up (am_up M 120 m v) 0 11 (nI (m + 1)) = M1
    have r121 : M1 121 = M 121 := by rw [← hM1, am_up_ne (by decide), am_up_ne (by decide)]
    have f35 : M1 121 35 = nI m := by rw [r121]; exact e2
    refine ⟨nI (m + 1), lp, M1, am_up (am_up M1 145 m v) 121 35 (nI (m + 1)), ?_, ?_, ?_⟩
    · simp only [fxX9_tell, am_gd_t, am_lt_e, am_bd_s, bi_0, bi_bz, bz0, bz1, nz2, nz10, nz100, hp_gi, hp_si, ob_0, ob_1, pt00, pt10, ↓reduceIte, if_true, if_false, Bool.true_eq_false, Bool.false_eq_true, eq_self, reduceCtorEq, e1, c1, pt010, x120, in_nI (show m < 60 by omega) (by decide), nI_clamp (show m < 2 ^ 31 by omega), up_nk (show (0 : Nat) ≠ 120 by decide), nI_1, hM1]
      rw [show M1 0 11 = nI (m + 1) by rw [← hM1, up_eq]]
    · simp only [fxX10_tell, am_gd_t, am_lt_e, am_bd_s, bi_0, bi_bz, bz0, bz1, nz2, nz10, nz100, hp_gi, hp_si, ob_M, pm0, pm0i, ↓reduceIte, if_true, if_false, Bool.true_eq_false, Bool.false_eq_true, eq_self, reduceCtorEq, f35, c2, pm34, x145, in_nI (show m < 60 by omega) (by decide), nI_clamp (show m < 2 ^ 31 by omega), up_nk (show (121 : Nat) ≠ 145 by decide), up_eq, nI_1]
    · have er : ∀ k, k ≠ 0 → k ≠ 120 → k ≠ 121 → k ≠ 145 → am_up (am_up M1 145 m v) 121 35 (nI (m + 1)) k = M k := fun k h1 h2 h3 h4 => by rw [am_up_ne h3, am_up_ne h4, ← hM1, am_up_ne h1, am_up_ne h2]
      refine hI.wait er (by rw [up_nk (by decide), up_nk (by decide), ← hM1, up_nj (by decide), up_nk (by decide)]) (by rw [up_nj (by decide), up_nk (by decide), r121]) (by rw [up_nj (by decide), up_nk (by decide), r121]) ?_
      refine ⟨m + 1, by omega, by rw [up_nk (by decide), up_nk (by decide), ← hM1, up_eq], up_eq _ _ _ _, fun i hi => ?_⟩
      have q1 : am_up (am_up M1 145 m v) 121 35 (nI (m + 1)) 120 i = up1 (M 120) m v i := by rw [up_nk (by decide), up_nk (by decide), ← hM1, up_nk (by decide), up_row]
      have q2 : am_up (am_up M1 145 m v) 121 35 (nI (m + 1)) 145 i = up1 (M 145) m v i := by rw [up_nk (by decide), up_row, ← hM1, am_up_ne (by decide), am_up_ne (by decide)]
      rw [q1, q2]
      by_cases him : i = m
      · subst him; rw [up1_eq, up1_eq]
      · rw [up1_ne him, up1_ne him]
        exact e3 i (by omega)
