/-! ===== glove, deal ===== -/
def addg (g : Nat → Int32) (n : Nat) (f : Nat → Int32) : Nat → Int32 := fun k => if k = 1 then nI (n + 1) else if 16 + 6 * n ≤ k ∧ k < 16 + 6 * n + 6 then f (k - (16 + 6 * n)) else g k
theorem RC_add {M M' : Mem} {gb : Nat} {g f : Nat → Int32} (hgu : isGu gb) (hR : RC M gb g) {n : Nat} (en : g 1 = nI n) (hn : n < 10) (hf : GV f) (hrow : ∀ j, j < 6 → M' (gb + 2 + n) j = f j) (hgb : M' gb = up1 (M gb) 1 (nI (n + 1))) (ho : ∀ k, k ≠ gb + 2 + n → k ≠ gb → k < 121 → M' k = M k) : RC M' gb (addg g n f) := by
  obtain ⟨a1, a2, a3, a4, a5, a6⟩ := hR
  have hgl : gb = 1 ∨ gb = 16 ∨ gb = 31 := hgu
  have ecn : cn (g 1) = n := by rw [en, cn_nI (by omega)]
  have e1 : addg g n f 1 = nI (n + 1) := by simp [addg]
  have ecn' : cn (addg g n f 1) = n + 1 := by rw [e1, cn_nI (by omega)]
  have e := fun (k : Nat) (h : k ≠ 1) (h2 : k < 16 + 6 * n ∨ 16 + 6 * n + 6 ≤ k) => (show addg g n f k = g k by unfold addg; rw [if_neg h, if_neg (by omega)])
  have ei := fun (j : Nat) (h : j < 6) => (show addg g n f (16 + 6 * n + j) = f j by unfold addg; rw [if_neg (by omega), if_pos (by omega)]; congr 1; omega)
  refine ⟨?_, fun x hx y hy => ?_, fun x hx => ?_, RCt_congr (ho _ (by omega) (by omega) (by omega)) (fun k q1 q2 => ho k (by omega) (by omega) (by omega)) (by rw [e 5 (by decide) (by omega)]; exact a5.t.1) (RCt_g (fun k hk => e k (by omega) (by omega)) (e 5 (by decide) (by omega)) a4), ?_, fun x hx y hy => ?_⟩
  · unfold RCs at a1 ⊢
    rw [hgb, e1, e 0 (by decide) (by omega), e 2 (by decide) (by omega), e 3 (by decide) (by omega), e 4 (by decide) (by omega), e 5 (by decide) (by omega)]
    obtain ⟨b1, b2, b3, b4, b5, b6⟩ := a1
    exact ⟨b1, rfl, b3, b4, b5, b6⟩
  · rw [ecn'] at hx
    by_cases hxn : x = n
    · subst hxn
      rw [hrow y hy, ei y hy]
    · rw [ho (gb + 2 + x) (by omega) (by omega) (by omega), e _ (by omega) (by omega)]
      exact a2 x (by omega) y hy
  · rw [e 4 (by decide) (by omega)] at hx
    have := a5.w.1
    rw [ho (gb + 12) (by omega) (by omega) (by omega), ho (gb + 13) (by omega) (by omega) (by omega), e (6 + x) (by omega) (by omega)]
    exact a3 x hx
  · obtain ⟨v1, v2, v3, v4, v5⟩ := a5
    exact ⟨⟨n + 1, by omega, e1⟩, by rw [e 2 (by decide) (by omega)]; exact v2, by rw [e 3 (by decide) (by omega)]; exact v3, by rw [e 4 (by decide) (by omega)]; exact v4, by rw [e 5 (by decide) (by omega)]; exact v5⟩
  · rw [ecn'] at hx
    unfold mg
    by_cases hxn : x = n
    · subst hxn
      rw [ei y hy]
      exact hf y hy
    · rw [e _ (by omega) (by omega)]
      exact a6 x (by omega) y hy
def fld (a b c d : Int32) (j : Nat) : Int32 := match j with
  | 0 => a | 1 => b | 2 => c | 3 => d | _ => 0
theorem setG_row (M : Mem) (k : Nat) (a b c d : Int32) (j : Nat) (hj : j < 6) : setG M k a b c d 0 0 k j = fld a b c d j := by
  rcases (show j = 0 ∨ j = 1 ∨ j = 2 ∨ j = 3 ∨ j = 4 ∨ j = 5 by omega) with rfl | rfl | rfl | rfl | rfl | rfl <;> simp [setG, am_up, fld]
theorem setG_ne {M : Mem} {k z : Nat} {a b c d e f : Int32} (h : z ≠ k) : setG M k a b c d e f z = M z := by
  unfold setG
  rw [am_up_ne h, am_up_ne h, am_up_ne h, am_up_ne h, am_up_ne h, am_up_ne h]
theorem fld_GV {a b c d : Nat} (ha : a ≤ 5) (hb : b ≤ 1) (hc : c ≤ 9) (hd : d ≤ 99) : GV (fld (nI a) (nI b) (nI c) (nI d)) := by
  intro j hj
  rcases (show j = 0 ∨ j = 1 ∨ j = 2 ∨ j = 3 ∨ j = 4 ∨ j = 5 by omega) with rfl | rfl | rfl | rfl | rfl | rfl
  · exact ⟨a, ha, rfl⟩
  · exact ⟨b, hb, rfl⟩
  · exact ⟨c, hc, rfl⟩
  · exact ⟨d, hd, rfl⟩
  · exact ⟨0, by decide, rfl⟩
  · exact ⟨0, by decide, rfl⟩
theorem q_addGlove {lp n : Nat} {M : Mem} (hn : n < 10) (e1 : M 1 1 = nI n) (a b c d : Int32) : fxX2_addGlove (some 1) a b c d (hp lp M) = some (nI n, hp lp (am_up (setG M (3 + n) a b c d 0 0) 1 1 (nI (n + 1)))) := by
  have c1 : (nI n < (10 : Int32)) = True := eq_true (nI_lt (a := n) (b := 10) hn (by decide))
  simp only [fxX2_addGlove, am_gd_t, am_lt_e, am_bd_s, bi_0, bi_bz, bz0, bz1, nz2, nz10, nz100, hp_gi, hp_si, ob_0, ob_1, pt00, pt10, ↓reduceIte, if_true, if_false, Bool.true_eq_false, Bool.false_eq_true, eq_self, reduceCtorEq, e1, c1, x2 hn, g2 hn, og3 hn, q_become (isG3 hn)]
  rw [show setG M (3 + n) a b c d 0 0 1 1 = nI n by rw [setG_ne (by omega)]; exact e1, nI_1]
theorem q_put {lp g j : Nat} {M : Mem} (hg : g < 10) (hj : j < 6) (J v : Int32) (eJ : J = nI j) : fxX10_put (some 121) (nI g) J v (hp lp M) = some ((), hp lp (am_up M 122 (16 + 6 * g + j) v)) := by
  subst eJ
  simp only [fxX10_put, am_gd_t, am_lt_e, am_bd_s, bi_0, bi_bz, bz0, bz1, nz2, nz10, nz100, hp_gi, hp_si, ob_M, pm0, pm0i, nI16, in_nI (show 16 + 6 * g + j < 1448 by omega) (by decide)]
  rw [nI_clamp (by omega)]
theorem q_comes {lp n : Nat} {M : Mem} (hn : n < 10) (e1 : M 122 1 = nI n) (a b c d : Int32) : ∃ M', fxX10_comes (some 121) a b c d (hp lp M) = some (nI n, hp lp M') ∧ M' 122 = addg (M 122) n (fld a b c d) ∧ ∀ k, k ≠ 122 → M' k = M k := by
  refine ⟨am_up (am_up (am_up (am_up (am_up (am_up (am_up M 122 (16 + 6 * n + 0) a) 122 (16 + 6 * n + 1) b) 122 (16 + 6 * n + 2) c) 122 (16 + 6 * n + 3) d) 122 (16 + 6 * n + 4) 0) 122 (16 + 6 * n + 5) 0) 122 1 (nI (n + 1)), ?_, ?_, fun k hk => ?_⟩
  · simp only [fxX10_comes, am_gd_t, am_lt_e, am_bd_s, bi_0, bi_bz, bz0, bz1, nz2, nz10, nz100, hp_gi, hp_si, ob_M, pm0, pm0i, show am_in (1 : Int32) 1448 = true from rfl, show (1 : Int32).toNatClampNeg = 1 from rfl, e1, q_put hn (show 0 < 6 by decide) (0 : Int32) _ rfl, q_put hn (show 1 < 6 by decide) (1 : Int32) _ rfl, q_put hn (show 2 < 6 by decide) (2 : Int32) _ rfl, q_put hn (show 3 < 6 by decide) (3 : Int32) _ rfl, q_put hn (show 4 < 6 by decide) (4 : Int32) _ rfl, q_put hn (show 5 < 6 by decide) (5 : Int32) _ rfl]
    rw [up_nj (by omega), up_nj (by omega), up_nj (by omega), up_nj (by omega), up_nj (by omega), up_nj (by omega), e1, nI_1]
  · funext k
    simp only [up_row]
    unfold addg up1
    by_cases h1 : k = 1
    · simp [h1]
    · simp only [h1, if_false]
      by_cases h2 : 16 + 6 * n ≤ k ∧ k < 16 + 6 * n + 6
      · rw [if_pos h2]
        obtain ⟨j, rfl⟩ : ∃ j, k = 16 + 6 * n + j := ⟨k - (16 + 6 * n), by omega⟩
        have hj : j < 6 := by omega
        rw [show 16 + 6 * n + j - (16 + 6 * n) = j by omega]
        rcases (show j = 0 ∨ j = 1 ∨ j = 2 ∨ j = 3 ∨ j = 4 ∨ j = 5 by omega) with rfl | rfl | rfl | rfl | rfl | rfl <;> simp [fld]
      · rw [if_neg h2, if_neg (by omega), if_neg (by omega), if_neg (by omega), if_neg (by omega), if_neg (by omega), if_neg (by omega)]
  · rw [am_up_ne hk, am_up_ne hk, am_up_ne hk, am_up_ne hk, am_up_ne hk, am_up_ne hk, am_up_ne hk]
/-- one glove more, on both sides -/
theorem add_both {lp n a b c d : Nat} {M : Mem} (hI : Inv lp M) (en : M 122 1 = nI n) (hn : n < 10) (ha : a ≤ 5) (hb : b ≤ 1) (hc : c ≤ 9) (hd : d ≤ 99) : ∃ M1 M2, fxX2_addGlove (some 1) (nI a) (nI b) (nI c) (nI d) (hp lp M) = some (nI n, hp lp M1) ∧ fxX10_comes (some 121) (nI a) (nI b) (nI c) (nI d) (hp lp M1) = some (nI n, hp lp M2) ∧ Inv lp M2 ∧ M2 122 1 = nI (n + 1) ∧ M1 122 = M 122 := by
  have e1 : M 1 1 = nI n := hI.1.1.1.2.1.trans en
  generalize hM1 : am_up (setG M (3 + n) (nI a) (nI b) (nI c) (nI d) 0 0) 1 1 (nI (n + 1)) = M1
  have r122 : M1 122 = M 122 := by rw [← hM1, am_up_ne (by omega), setG_ne (by omega)]
  obtain ⟨M2, q1, q2, q3⟩ := q_comes (lp := lp) (M := M1) hn (by rw [r122]; exact en) (nI a) (nI b) (nI c) (nI d)
  refine ⟨M1, M2, by rw [q_addGlove hn e1, hM1], q1, ?_, by rw [q2]; simp [addg], r122⟩
  have hrow : ∀ k, k ≠ 3 + n → k ≠ 1 → k ≠ 122 → M2 k = M k := fun k h1 h2 h3 => by rw [q3 k h3, ← hM1, am_up_ne h2, setG_ne h1]
  refine hI.now (fun k h1 h2 => hrow k (by omega) (by omega) h2) ?_ ?_ ?_
  · rw [q2, r122]
    refine RC_add gu1 hI.1.1 en hn (fld_GV ha hb hc hd) (fun j hj => ?_) ?_ (fun k h1 h2 h3 => hrow k (by omega) h2 (by omega))
    · show M2 (3 + n) j = _
      rw [q3 _ (by omega), ← hM1, am_up_ne (by omega)]
      exact setG_row M (3 + n) _ _ _ _ j hj
    · rw [q3 1 (by omega), ← hM1, up_row, setG_ne (by omega)]
  · rw [q2, r122]
    show cn (addg (M 122) n _ 2) ≤ _
    rw [show addg (M 122) n (fld (nI a) (nI b) (nI c) (nI d)) 2 = M 122 2 by unfold addg; rw [if_neg (by decide), if_neg (by omega)]]
    exact hI.1.2
  · rw [q2, r122, show addg (M 122) n (fld (nI a) (nI b) (nI c) (nI d)) 5 = M 122 5 by unfold addg; rw [if_neg (by decide), if_neg (by omega)]]
    exact Nat.le_refl _
theorem P_glove (a b c d : Int32) : Pair (fxX9_glove (some 0) a b c d) (fxX10_glove (some 121) a b c d) := by
  intro lp M hI
  obtain ⟨hn, en⟩ := hI.1.1.2.2.2.2.1.n
  have e1 : M 1 1 = M 122 1 := hI.1.1.1.2.1
  cases ha : iw a 0 5 with
  | false => exact ⟨-1000000001, lp, M, M, by simp only [fxX9_glove, am_gd_t, am_lt_e, am_bd_s, bi_0, bi_bz, bz0, bz1, nz2, nz10, nz100, hp_gi, hp_si, ob_0, ob_1, pt00, pt10, ↓reduceIte, if_true, if_false, Bool.true_eq_false, Bool.false_eq_true, eq_self, reduceCtorEq, q_isKind, ha], by simp only [fxX10_glove, am_gd_t, am_lt_e, am_bd_s, bi_0, bi_bz, bz0, bz1, nz2, nz10, nz100, hp_gi, hp_si, ob_M, pm0, pm0i, ↓reduceIte, if_true, if_false, Bool.true_eq_false, Bool.false_eq_true, eq_self, reduceCtorEq, q_in, ha], hI⟩
  | true =>
  cases hb : iw b 0 1 with
  | false => exact ⟨-1000000001, lp, M, M, by simp only [fxX9_glove, am_gd_t, am_lt_e, am_bd_s, bi_0, bi_bz, bz0, bz1, nz2, nz10, nz100, hp_gi, hp_si, ob_0, ob_1, pt00, pt10, ↓reduceIte, if_true, if_false, Bool.true_eq_false, Bool.false_eq_true, eq_self, reduceCtorEq, q_isKind, q_within, ha, hb], by simp only [fxX10_glove, am_gd_t, am_lt_e, am_bd_s, bi_0, bi_bz, bz0, bz1, nz2, nz10, nz100, hp_gi, hp_si, ob_M, pm0, pm0i, ↓reduceIte, if_true, if_false, Bool.true_eq_false, Bool.false_eq_true, eq_self, reduceCtorEq, q_in, ha, hb], hI⟩
  | true =>
  cases hc : iw c 0 9 with
  | false => exact ⟨-1000000001, lp, M, M, by simp only [fxX9_glove, am_gd_t, am_lt_e, am_bd_s, bi_0, bi_bz, bz0, bz1, nz2, nz10, nz100, hp_gi, hp_si, ob_0, ob_1, pt00, pt10, ↓reduceIte, if_true, if_false, Bool.true_eq_false, Bool.false_eq_true, eq_self, reduceCtorEq, q_isKind, q_within, ha, hb, hc], by simp only [fxX10_glove, am_gd_t, am_lt_e, am_bd_s, bi_0, bi_bz, bz0, bz1, nz2, nz10, nz100, hp_gi, hp_si, ob_M, pm0, pm0i, ↓reduceIte, if_true, if_false, Bool.true_eq_false, Bool.false_eq_true, eq_self, reduceCtorEq, q_in, ha, hb, hc], hI⟩
  | true =>
  cases hd : iw d 0 99 with
  | false => exact ⟨-1000000001, lp, M, M, by simp only [fxX9_glove, am_gd_t, am_lt_e, am_bd_s, bi_0, bi_bz, bz0, bz1, nz2, nz10, nz100, hp_gi, hp_si, ob_0, ob_1, pt00, pt10, ↓reduceIte, if_true, if_false, Bool.true_eq_false, Bool.false_eq_true, eq_self, reduceCtorEq, q_isKind, q_within, ha, hb, hc, hd], by simp only [fxX10_glove, am_gd_t, am_lt_e, am_bd_s, bi_0, bi_bz, bz0, bz1, nz2, nz10, nz100, hp_gi, hp_si, ob_M, pm0, pm0i, ↓reduceIte, if_true, if_false, Bool.true_eq_false, Bool.false_eq_true, eq_self, reduceCtorEq, q_in, ha, hb, hc, hd], hI⟩
  | true =>
  by_cases h10 : cn (M 122 1) = 10
  · have h9 : M 122 1 = 10 := by rw [en, h10]; rfl
    refine ⟨-1000000003, lp, M, M, ?_, ?_, hI⟩
    · simp only [fxX9_glove, fxX2_addGlove, am_gd_t, am_lt_e, am_bd_s, bi_0, bi_bz, bz0, bz1, nz2, nz10, nz100, hp_gi, hp_si, ob_0, ob_1, pt00, pt10, ↓reduceIte, if_true, if_false, Bool.true_eq_false, Bool.false_eq_true, eq_self, reduceCtorEq, q_isKind, q_within, ha, hb, hc, hd, e1, h9, show ((10 : Int32) < 10) = False from by decide]
    · simp only [fxX10_glove, am_gd_t, am_lt_e, am_bd_s, bi_0, bi_bz, bz0, bz1, nz2, nz10, nz100, hp_gi, hp_si, ob_M, pm0, pm0i, ↓reduceIte, if_true, if_false, Bool.true_eq_false, Bool.false_eq_true, eq_self, reduceCtorEq, q_in, ha, hb, hc, hd, show am_in (1 : Int32) 1448 = true from rfl, show (1 : Int32).toNatClampNeg = 1 from rfl, h9]
  · obtain ⟨a', la, rfl⟩ := iw_lit 5 (b := 5) rfl (by decide) ha
    obtain ⟨b', lb, rfl⟩ := iw_lit 1 (b := 1) rfl (by decide) hb
    obtain ⟨c', lc, rfl⟩ := iw_lit 9 (b := 9) rfl (by decide) hc
    obtain ⟨d', ld, rfl⟩ := iw_lit 99 (b := 99) rfl (by decide) hd
    obtain ⟨M1, M2, r1, r2, r3, -, r5⟩ := add_both hI en (by omega) la lb lc ld
    have hM1 : M1 122 1 = M 122 1 := by rw [r5]
    have f2 : (M1 122 1 = 10) = False := by
      simp only [eq_iff_iff, iff_false]
      rw [hM1, en]
      exact fun q => h10 ((nI_eq (a := cn (M 122 1)) (b := 10) (by omega) (by decide)).mp q)
    refine ⟨nI (cn (M 122 1)), lp, M1, M2, ?_, ?_, r3⟩
    · simp only [fxX9_glove, am_gd_t, am_lt_e, am_bd_s, bi_0, bi_bz, bz0, bz1, nz2, nz10, nz100, hp_gi, hp_si, ob_0, ob_1, pt00, pt10, ↓reduceIte, if_true, if_false, Bool.true_eq_false, Bool.false_eq_true, eq_self, reduceCtorEq, q_isKind, q_within, ha, hb, hc, hd, r1]
    · simp only [fxX10_glove, am_gd_t, am_lt_e, am_bd_s, bi_0, bi_bz, bz0, bz1, nz2, nz10, nz100, hp_gi, hp_si, ob_M, pm0, pm0i, ↓reduceIte, if_true, if_false, Bool.true_eq_false, Bool.false_eq_true, eq_self, reduceCtorEq, q_in, ha, hb, hc, hd, show am_in (1 : Int32) 1448 = true from rfl, show (1 : Int32).toNatClampNeg = 1 from rfl, f2, r2]

/-! drawing -/
def lcg (z : Int32) : Int32 := z * 1103515245 + 12345
def drw (z : Int32) : Int32 := am_ush z 8
theorem all_nI (z : Int32) : ∃ n, n < 2 ^ 32 ∧ z = nI n := by
  refine ⟨z.toBitVec.toNat, z.toBitVec.isLt, ?_⟩
  apply Int32.toBitVec_inj.mp
  apply BitVec.eq_of_toNat_eq
  rw [pk_tn z.toBitVec.isLt]
theorem drw_nI (z : Int32) : ∃ q, q < 2 ^ 24 ∧ drw z = nI q := by
  obtain ⟨n, hn, rfl⟩ := all_nI z
  refine ⟨n / 2 ^ 8, by omega, ?_⟩
  exact pk_ushrN hn 8 8 (by decide)
theorem rem_nI {q d : Nat} (hq : q < 2 ^ 24) (h0 : 0 < d) (hd : d ≤ 1000) : am_rem (nI q) (nI d) = nI (q % d) := pk_rem (by omega) h0 (by omega)
theorem drw_rem (z : Int32) (d : Nat) (h0 : 0 < d) (hd : d ≤ 1000) : ∃ r, r < d ∧ am_rem (drw z) (nI d) = nI r := by
  obtain ⟨q, hq, e⟩ := drw_nI z
  exact ⟨q % d, Nat.mod_lt _ h0, by rw [e]; exact rem_nI hq h0 hd⟩
theorem q_draw {lp gb : Nat} {M : Mem} (hg : isGu gb) : fxX2_draw (some gb) (hp lp M) = some (drw (lcg (M gb 4)), hp lp (am_up M gb 4 (lcg (M gb 4)))) := by
  simp only [fxX2_draw, ob_gu hg, am_gd_t, am_lt_e, am_bd_s, bi_0, bi_bz, bz0, bz1, nz2, nz10, nz100, hp_gi, hp_si]
  rw [up_eq]
  rfl
theorem q_mdraw {lp : Nat} {M : Mem} : fxX10_draw (some 121) (hp lp M) = some (drw (lcg (M 122 0)), hp lp (am_up M 122 0 (lcg (M 122 0)))) := by
  simp only [fxX10_draw, am_gd_t, am_lt_e, am_bd_s, bi_0, bi_bz, bz0, bz1, nz2, nz10, nz100, hp_gi, hp_si, ob_M, pm0, pm0i, show am_in (0 : Int32) 1448 = true from rfl, show (0 : Int32).toNatClampNeg = 0 from rfl]
  rw [up_eq]
  rfl
/-- both sides' z becomes v -/
theorem Inv_z {lp : Nat} {M : Mem} (hI : Inv lp M) (v : Int32) : Inv lp (am_up (am_up M 1 4 v) 122 0 v) := by
  have e : am_up (am_up M 1 4 v) 122 0 v 122 = up1 (M 122) 0 v := by rw [up_row, am_up_ne (by decide)]
  have e1 : am_up (am_up M 1 4 v) 122 0 v 1 = up1 (M 1) 4 v := by rw [am_up_ne (by decide), up_row]
  refine hI.now (fun k h1 h2 => up2_row (by omega) (by omega)) ?_ ?_ ?_
  · rw [e]
    obtain ⟨a1, a2, a3, a4, a5, a6⟩ := hI.1.1.1
    refine RC_scal hI.1.1 (Or.inl rfl) ?_ (fun k h1 h2 => up2_row (by omega) (by omega)) (fun k h1 h2 => up2_row (by omega) (by omega)) ?_
    · unfold RCs
      rw [e1]
      exact ⟨by rw [up1_eq, up1_eq], a2, a3, a4, a5, a6⟩
    · exact hI.1.1.2.2.2.2.1
  · rw [e]; exact hI.1.2
  · rw [e]; exact Nat.le_refl _
theorem up_up (M : Mem) (k j : Nat) (v w : Int32) : am_up (am_up M k j v) k j w = am_up M k j w := by
  funext a c
  simp only [am_up]
  by_cases h1 : a = k <;> by_cases h2 : c = j <;> simp [h1, h2]
theorem up_comm {M : Mem} {a b c d : Nat} {v w : Int32} (h : a ≠ c) : am_up (am_up M a b v) c d w = am_up (am_up M c d w) a b v := by
  funext x y
  simp only [am_up]
  by_cases h1 : x = a
  · subst h1
    simp [h]
  · by_cases h2 : x = c
    · subst h2
      simp [h1]
    · simp [h1, h2]
/-- one glove drawn -/
def deal1 (g : Nat → Int32) : Nat → Int32 := addg (up1 g 0 (lcg (lcg (lcg (lcg (g 0)))))) (cn (g 1)) (fld (am_rem (drw (lcg (g 0))) 6) (am_rem (drw (lcg (lcg (g 0)))) 2) (am_rem (drw (lcg (lcg (lcg (g 0))))) 10) (am_rem (drw (lcg (lcg (lcg (lcg (g 0)))))) 100))
theorem nz6 : am_nz (6 : Int32) = true := Eq.trans rfl rfl
theorem deal1_c {lp : Nat} {M : Mem} {g : Nat → Int32} (hR : RC M 1 g) (hn : cn (g 1) < 10) : ∃ M', fxX2_drawGlove (some 1) (hp lp M) = some ((), hp lp M') ∧ RC M' 1 (deal1 g) ∧ ∀ k, ¬ (1 ≤ k ∧ k ≤ 15) → M' k = M k := by
  have en := hR.2.2.2.2.1.n.2
  generalize hz : lcg (lcg (lcg (lcg (g 0)))) = z4
  have e0 : M 1 4 = g 0 := hR.1.1
  have e1 : M 1 1 = g 1 := hR.1.2.1
  have hA := q_addGlove (lp := lp) (M := am_up M 1 4 z4) hn (by rw [up_nj (by decide), e1]; exact en) (am_rem (drw (lcg (g 0))) 6) (am_rem (drw (lcg (lcg (g 0)))) 2) (am_rem (drw (lcg (lcg (lcg (g 0))))) 10) (am_rem (drw z4) 100)
  obtain ⟨r1, l1, f1⟩ := drw_rem (lcg (g 0)) 6 (by decide) (by decide)
  obtain ⟨r2, l2, f2⟩ := drw_rem (lcg (lcg (g 0))) 2 (by decide) (by decide)
  obtain ⟨r3, l3, f3⟩ := drw_rem (lcg (lcg (lcg (g 0)))) 10 (by decide) (by decide)
  obtain ⟨r4, l4, f4⟩ := drw_rem z4 100 (by decide) (by decide)
  have hR1 : RC (am_up M 1 4 z4) 1 (up1 g 0 z4) := by
    obtain ⟨a1, a2, a3, a4, a5, a6⟩ := hR.1
    refine RC_scal hR (Or.inl rfl) ?_ (fun k h1 h2 => am_up_ne (by omega)) (fun k h1 h2 => am_up_ne (by omega)) hR.2.2.2.2.1
    unfold RCs
    rw [up_row]
    exact ⟨by rw [up1_eq, up1_eq], a2, a3, a4, a5, a6⟩
  refine ⟨am_up (setG (am_up M 1 4 z4) (3 + cn (g 1)) (am_rem (drw (lcg (g 0))) 6) (am_rem (drw (lcg (lcg (g 0)))) 2) (am_rem (drw (lcg (lcg (lcg (g 0))))) 10) (am_rem (drw z4) 100) 0 0) 1 1 (nI (cn (g 1) + 1)), ?_, ?_, fun k hk => ?_⟩
  · simp only [fxX2_drawGlove, ob_1, am_gd_t, am_lt_e, am_bd_s, bi_0, bi_bz, bz0, bz1, nz2, nz10, nz100, hp_gi, hp_si, nz6, q_draw gu1, up_eq, up_up, e0, hz, hA]
  · unfold deal1
    rw [hz]
    refine RC_add gu1 hR1 (show up1 g 0 z4 1 = nI (cn (g 1)) by rw [up1_ne (by decide)]; exact en) hn ?_ (fun j hj => ?_) ?_ (fun k h1 h2 h3 => ?_)
    · rw [show (6 : Int32) = nI 6 from rfl, show (2 : Int32) = nI 2 from rfl, show (10 : Int32) = nI 10 from rfl, show (100 : Int32) = nI 100 from rfl, f1, f2, f3, f4]
      exact fld_GV (by omega) (by omega) (by omega) (by omega)
    · show am_up _ 1 1 _ (3 + cn (g 1)) j = _
      rw [up_nk (by omega)]
      exact setG_row _ _ _ _ _ _ j hj
    · rw [up_row, setG_ne (by omega)]
    · rw [am_up_ne (by omega), setG_ne (by omega)]
  · rw [am_up_ne (by omega), setG_ne (by omega), am_up_ne (by omega)]
theorem deal1_m {lp : Nat} {M : Mem} (hv : Vs (M 122)) (hn : cn (M 122 1) < 10) : ∃ M', (∀ (k : Int32 → am_H → Option (Int32 × am_H)), am_bd (fxX10_draw (some 121) (hp lp M)) (fun r5 h6 => am_gd (am_ob h6 (some 121) 10) (am_bd (fxX10_draw (some 121) h6) (fun r8 h9 => am_gd (am_ob h9 (some 121) 10) (am_bd (fxX10_draw (some 121) h9) (fun r11 h12 => am_gd (am_ob h12 (some 121) 10) (am_bd (fxX10_draw (some 121) h12) (fun r14 h15 => am_gd (am_ob h15 (some 121) 10) (am_bd (fxX10_comes (some 121) (am_rem r5 6) (am_rem r8 2) (am_rem r11 10) (am_rem r14 100) h15) k)))))))) = k (M 122 1) (hp lp M')) ∧ M' 122 = deal1 (M 122) ∧ ∀ k, k ≠ 122 → M' k = M k := by
  have en := hv.n.2
  generalize hz : lcg (lcg (lcg (lcg (M 122 0)))) = z4
  obtain ⟨M', q1, q2, q3⟩ := q_comes (lp := lp) (M := am_up M 122 0 z4) hn (by rw [up_nj (by decide)]; exact en) (am_rem (drw (lcg (M 122 0))) 6) (am_rem (drw (lcg (lcg (M 122 0)))) 2) (am_rem (drw (lcg (lcg (lcg (M 122 0))))) 10) (am_rem (drw z4) 100)
  refine ⟨M', fun k => ?_, ?_, fun k hk => by rw [q3 k hk, am_up_ne hk]⟩
  · simp only [q_mdraw, am_bd_s, am_gd_t, ob_M, up_eq, up_up, hz, q1]
    rw [← en]
  · rw [q2, up_row]
    unfold deal1
    rw [hz]
def dealN (g : Nat → Int32) : Nat → (Nat → Int32)
  | 0 => g
  | k + 1 => dealN (deal1 g) k
theorem deal1_n (g : Nat → Int32) (hv : Vs g) (hn : cn (g 1) < 10) : cn (deal1 g 1) = cn (g 1) + 1 := by
  unfold deal1 addg
  rw [if_pos rfl, cn_nI (by omega)]
theorem deal_c {lp : Nat} : ∀ (k : Nat) (i fuel : Nat) (M : Mem) (g : Nat → Int32), RC M 1 g → cn (g 1) + k ≤ 10 → k < fuel → i + k ≤ 20 → ∃ M', fxX9_deal_b30 fuel (some 0) (nI (i + k)) (nI i) (hp lp M) = some (nI (i + k), hp lp M') ∧ RC M' 1 (dealN g k) ∧ ∀ z, ¬ (1 ≤ z ∧ z ≤ 15) → M' z = M z := by
  intro k
  induction k with
  | zero =>
    intro i fuel M g hR hk hf hi
    cases fuel with
    | zero => omega
    | succ fuel =>
      refine ⟨M, ?_, hR, fun _ _ => rfl⟩
      simp only [fxX9_deal_b30, Nat.add_zero, Int32.le_refl, if_true]
  | succ k ih =>
    intro i fuel M g hR hk hf hi
    cases fuel with
    | zero => omega
    | succ fuel =>
      obtain ⟨M1, q1, q2, q3⟩ := deal1_c (lp := lp) hR (by omega)
      obtain ⟨M2, s1, s2, s3⟩ := ih (i + 1) fuel M1 (deal1 g) q2 (by rw [deal1_n g hR.2.2.2.2.1 (by omega)]; omega) (by omega) (by omega)
      refine ⟨M2, ?_, s2, fun z hz => by rw [s3 z hz, q3 z hz]⟩
      have hlt : (nI (i + (k + 1)) ≤ nI i) = False := by
        simp only [eq_iff_iff, iff_false]
        exact nI_ge (by omega) (by omega)
      simp only [fxX9_deal_b30, hlt, am_gd_t, am_lt_e, am_bd_s, bi_0, bi_bz, bz0, bz1, nz2, nz10, nz100, hp_gi, hp_si, ob_0, ob_1, pt00, pt10, ↓reduceIte, if_true, if_false, Bool.true_eq_false, Bool.false_eq_true, eq_self, reduceCtorEq, q1, nI_1]
      rw [show i + (k + 1) = i + 1 + k by omega]
      exact s1
theorem deal1_Vs {g : Nat → Int32} (hv : Vs g) (hn : cn (g 1) < 10) : Vs (deal1 g) := by
  obtain ⟨v1, v2, v3, v4, v5⟩ := hv
  have e := fun (k : Nat) (h1 : k ≠ 1) (h0 : k ≠ 0) (h : k < 16) => (show deal1 g k = g k by unfold deal1 addg; rw [if_neg h1, if_neg (by omega), up1_ne h0])
  refine ⟨⟨cn (g 1) + 1, by omega, by unfold deal1 addg; rw [if_pos rfl]⟩, ?_, ?_, ?_, ?_⟩
  · rw [e 2 (by decide) (by decide) (by decide)]; exact v2
  · rw [e 3 (by decide) (by decide) (by decide)]; exact v3
  · rw [e 4 (by decide) (by decide) (by decide)]; exact v4
  · rw [e 5 (by decide) (by decide) (by decide)]; exact v5
theorem deal_m {lp : Nat} : ∀ (k : Nat) (i n fuel : Nat) (M : Mem), Vs (M 122) → cn (M 122 1) + k ≤ 10 → (n = i + k ∨ (cn (M 122 1) + k = 10 ∧ i + k ≤ n)) → k < fuel → n ≤ 20 → ∃ M', fxX10_deal_b15 fuel (some 121) (nI n) (nI i) (hp lp M) = some (nI (i + k), hp lp M') ∧ M' 122 = dealN (M 122) k ∧ ∀ z, z ≠ 122 → M' z = M z := by
  intro k
  induction k with
  | zero =>
    intro i n fuel M hv hk hor hf hn
    cases fuel with
    | zero => omega
    | succ fuel =>
      refine ⟨M, ?_, rfl, fun _ _ => rfl⟩
      by_cases hni : n = i
      · subst hni
        simp only [fxX10_deal_b15, Nat.add_zero, Int32.le_refl, if_true]
      · have hlt : (nI n ≤ nI i) = False := by
          simp only [eq_iff_iff, iff_false]
          exact nI_ge (by omega) (by omega)
        have h10 : M 122 1 = 10 := by rw [hv.n.2, show cn (M 122 1) = 10 by omega]; rfl
        simp only [fxX10_deal_b15, hlt, am_gd_t, am_lt_e, am_bd_s, bi_0, bi_bz, bz0, bz1, nz2, nz10, nz100, hp_gi, hp_si, ob_M, pm0, pm0i, ↓reduceIte, if_true, if_false, Bool.true_eq_false, Bool.false_eq_true, eq_self, reduceCtorEq, show am_in (1 : Int32) 1448 = true from rfl, show (1 : Int32).toNatClampNeg = 1 from rfl, h10, Int32.le_refl, Nat.add_zero]
  | succ k ih =>
    intro i n fuel M hv hk hor hf hn
    cases fuel with
    | zero => omega
    | succ fuel =>
      obtain ⟨M1, q1, q2, q3⟩ := deal1_m (lp := lp) hv (by omega)
      have hc := deal1_n (M 122) hv (by omega)
      obtain ⟨M2, s1, s2, s3⟩ := ih (i + 1) n fuel M1 (by rw [q2]; exact deal1_Vs hv (by omega)) (by rw [q2, hc]; omega) (by rw [q2, hc]; omega) (by omega) hn
      refine ⟨M2, ?_, by rw [s2, q2]; rfl, fun z hz => by rw [s3 z hz, q3 z hz]⟩
      have hlt : (nI n ≤ nI i) = False := by
        simp only [eq_iff_iff, iff_false]
        exact nI_ge (by omega) (by omega)
      have hlt2 : ((10 : Int32) ≤ M 122 1) = False := by
        simp only [eq_iff_iff, iff_false]
        rw [hv.n.2]
        exact nI_ge (a := cn (M 122 1)) (b := 10) (by omega) (by decide)
      simp only [fxX10_deal_b15, hlt, hlt2, am_gd_t, am_lt_e, nz6, nz2, nz10, nz100, ob_M, pm0, pm0i, ↓reduceIte, if_true, if_false, Bool.true_eq_false, Bool.false_eq_true, eq_self, reduceCtorEq, hp_gi, show am_in (1 : Int32) 1448 = true from rfl, show (1 : Int32).toNatClampNeg = 1 from rfl, nI_1]
      rw [q1 (fun _ h17 => fxX10_deal_b15 fuel (some 121) (nI n) (nI (i + 1)) h17)]
      rw [show i + (k + 1) = i + 1 + k by omega]
      exact s1
theorem P_deal (n : Int32) : Pair (fxX9_deal (some 0) n) (fxX10_deal (some 121) n) := by
  intro lp M hI
  cases hv : iw n 1 10 with
  | false => exact ⟨-1000000001, lp, M, M, by simp only [fxX9_deal, am_gd_t, am_lt_e, am_bd_s, bi_0, bi_bz, bz0, bz1, nz2, nz10, nz100, hp_gi, hp_si, ob_0, ob_1, pt00, pt10, ↓reduceIte, if_true, if_false, Bool.true_eq_false, Bool.false_eq_true, eq_self, reduceCtorEq, q_within, hv], by simp only [fxX10_deal, am_gd_t, am_lt_e, am_bd_s, bi_0, bi_bz, bz0, bz1, nz2, nz10, nz100, hp_gi, hp_si, ob_M, pm0, pm0i, ↓reduceIte, if_true, if_false, Bool.true_eq_false, Bool.false_eq_true, eq_self, reduceCtorEq, q_in, hv], hI⟩
  | true =>
    have hb2 : iw n 0 10 = true := by
      simp only [iw, Bool.and_eq_true, decide_eq_true_eq] at hv ⊢
      exact ⟨Int32.le_trans (by decide) hv.1, hv.2⟩
    obtain ⟨j, hj, rfl⟩ := iw_lit 10 (b := 10) rfl (by decide) hb2
    have hR := hI.1.1
    obtain ⟨hc, ec⟩ := hR.2.2.2.2.1.n
    generalize hk : min j (10 - cn (M 122 1)) = k
    have hmin : am_mmin (nI j) (10 - M 1 1) = nI k := by
      rw [hR.1.2.1, ec, show (10 : Int32) = nI 10 from rfl, pk_sub hc]
      unfold am_mmin
      by_cases q : 10 - cn (M 122 1) < j
      · rw [if_pos (nI_lt q (by omega)), show k = 10 - cn (M 122 1) by omega]
      · rw [if_neg (nI_nlt (by omega) (by omega)), show k = j by omega]
    obtain ⟨M1, q1, q2, q3⟩ := deal_c (lp := lp) k 0 am_F M (M 122) hR (by omega) (by unfold am_F; omega) (by omega)
    have r122 : M1 122 = M 122 := q3 122 (by omega)
    obtain ⟨M2, s1, s2, s3⟩ := deal_m (lp := lp) k 0 j am_F M1 (by rw [r122]; exact hR.2.2.2.2.1) (by rw [r122]; omega) (by rw [r122]; omega) (by unfold am_F; omega) (by omega)
    rw [Nat.zero_add] at q1 s1
    refine ⟨nI k, lp, M1, M2, ?_, ?_, ?_⟩
    · simp only [fxX9_deal, am_gd_t, am_lt_e, am_bd_s, bi_0, bi_bz, bz0, bz1, nz2, nz10, nz100, hp_gi, hp_si, ob_0, ob_1, pt00, pt10, ↓reduceIte, if_true, if_false, Bool.true_eq_false, Bool.false_eq_true, eq_self, reduceCtorEq, q_within, hv, hmin]
      exact q1
    · simp only [fxX10_deal, am_gd_t, am_lt_e, am_bd_s, bi_0, bi_bz, bz0, bz1, nz2, nz10, nz100, hp_gi, hp_si, ob_M, pm0, pm0i, ↓reduceIte, if_true, if_false, Bool.true_eq_false, Bool.false_eq_true, eq_self, reduceCtorEq, q_in, hv]
      exact s1
    · have hd : ∀ (k : Nat) (g : Nat → Int32), dealN g k 2 = g 2 ∧ dealN g k 5 = g 5 := by
        intro k
        induction k with
        | zero => intro g; exact ⟨rfl, rfl⟩
        | succ k ih =>
          intro g
          have := ih (deal1 g)
          have e := fun (z : Nat) (h1 : z ≠ 1) (h0 : z ≠ 0) (h : z < 16) => (show deal1 g z = g z by unfold deal1 addg; rw [if_neg h1, if_neg (by omega), up1_ne h0])
          rw [e 2 (by decide) (by decide) (by decide), e 5 (by decide) (by decide) (by decide)] at this
          exact this
      refine hI.now (fun z h1 h2 => by rw [s3 z h2, q3 z h1]) ?_ ?_ ?_
      · rw [s2, r122]
        refine RC_congr (fun z h1 h2 => s3 z (by omega)) (fun z h1 h2 => s3 z (by omega)) q2
      · rw [s2, r122, (hd k _).1]; exact hI.1.2
      · rw [s2, r122, (hd k _).2]; exact Nat.le_refl _
