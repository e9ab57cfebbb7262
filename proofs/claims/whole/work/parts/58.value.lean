/-! ===== the reference's laws worked out; value, fine ===== -/
theorem nI104 (t k : Nat) : ((104 : Int32) + ((96 : Int32) * nI t)) + nI k = nI (104 + 96 * t + k) := by
  rw [show (104 : Int32) = nI 104 from rfl, show (96 : Int32) = nI 96 from rfl, pk_mul, nI_add, nI_add]
theorem works_step {lp t n k fuel : Nat} {M : Mem} {c m : Int32} {st : List Int32} (ht : t < 14) (hn : n ≤ 96) (hk : k < n) (hd : st.length ≤ k) (em' : M 122 (104 + 96 * t + k) = m) (hc : crel c m) (hok : okS m st.length) (hS : SR (M 135) st) : ∃ M', fxX10_worksOut_b21 (fuel + 1) (some 121) (nI t) (nI st.length) (nI n) (nI k) (hp lp M) = fxX10_worksOut_b21 fuel (some 121) (nI t) (nI (evS (M 136) m st).length) (nI n) (nI (k + 1)) (hp lp M') ∧ SR (M' 135) (evS (M 136) m st) ∧ ∀ w, w ≠ 135 → M' w = M w := by
  have c1 : (nI n ≤ nI k) = False := zle (by omega) (by omega)
  rcases crel_cases hc with ⟨v, hv, ec, em⟩ | ⟨i, hi, ec, em⟩ | ⟨ec, em⟩ | hm
  · have p0 : ((0 : Int32) ≤ m) = True := by rw [em]; exact eq_true (nI_pos' (by omega))
    have p1 : ((10000 : Int32) ≤ m) = False := by rw [em]; exact eq_false (nI_ge (b := 10000) (by omega) (by decide))
    have p2 : (m < 0) = False := by rw [em]; exact eq_false (nI_pos (by omega))
    have es : evS (M 136) m st = m :: st := by unfold evS; simp only [p0, p1, ↓reduceIte, if_true, if_false, Bool.true_eq_false, Bool.false_eq_true, eq_self, reduceCtorEq]
    rw [es]
    refine ⟨am_up M 135 st.length m, ?_, ?_, fun w hw => am_up_ne hw⟩
    · simp (disch := omega) only [fxX10_worksOut_b21, fxX10_worksOut_b149, fxX10_worksOut_b78, am_gd_t, am_lt_e, am_bd_s, bi_0, bi_bz, bz0, bz1, nz2, nz10, nz100, hp_gi, hp_si, ↓reduceIte, if_true, if_false, Bool.true_eq_false, Bool.false_eq_true, eq_self, reduceCtorEq, zo0, zp0_0, zp0_1, zp0_2, zp0_4, zp0_5, zp0_6, zp0_7, zp0_8, zp0_9, zp0_10, zo1, zp1_0, zp1_5, zp1_6, zp1_9, zo16, zp16_0, zp16_5, zp16_6, zp16_9, zo31, zp31_0, zp31_5, zp31_6, zp31_9, zo46, zp46_0, zp46_1, zp46_2, zo79, zp79_0, zo83, zp83_0, zp83_1, zp83_2, zo87, zp87_0, zp87_1, zo121, zp121_0, zp121_1, zp121_2, zp121_4, zp121_5, zp121_6, zp121_7, zp121_8, zp121_16, zp121_17, zp121_18, zp121_21, zp121_23, zp121_24, zp121_25, zp121_26, zp121_27, zp121_28, zp121_29, zp121_30, zp121_31, zp121_32, zp121_33, zp121_34, zp79_2, zx2, zx13, zx14, zx15, zx17, zx28, zx29, zx30, zx32, zx43, zx44, zx45, zx47, zx78, zx80, zx84, zx85, zx86, zx88, zx89, zx90, zx99, zx120, zx122, zx123, zx124, zx125, zx126, zx127, zx128, zx129, zx130, zx131, zx132, zx133, zx134, zx135, zx136, zx137, zx138, zx139, zx140, zx141, zx142, zx143, zx144, zx145, zg2, zg17, zg32, zgo3, zgo18, zgo33, zl47, zlo, zlp, zlx, zs90, zso, zsp, zsx, zt99, zto, ztp1, ztp2, ztgo, ztso, ztsp, ztsx, zc0, zi0, zc1, zi1, zc2, zi2, zc3, zi3, zc4, zi4, zc5, zi5, zin, zcl, nI_1, Bool.and_self, Bool.true_and, Bool.and_true, c1, nI104, em', p1, p2, List.length_cons]
    · rw [up_row]
      exact ⟨up1_eq _ _ _, SR_up (Nat.le_refl _) hS⟩
  · rw [m10k] at em
    have p0 : ((0 : Int32) ≤ m) = True := by rw [em]; exact eq_true (nI_pos' (by omega))
    have p1 : ((10000 : Int32) ≤ m) = True := by rw [em]; exact eq_true (nI_le (a := 10000) (by omega) (by omega))
    have p2 : (m < 0) = False := by rw [em]; exact eq_false (nI_pos (by omega))
    have p3 : m - 10000 = nI i := by rw [em, m10s]
    have es : evS (M 136) m st = M 136 i :: st := by unfold evS; simp only [p0, p1, ↓reduceIte, if_true, if_false, Bool.true_eq_false, Bool.false_eq_true, eq_self, reduceCtorEq]; rw [p3, cn_nI (by omega)]
    rw [es]
    refine ⟨am_up M 135 st.length (M 136 i), ?_, ?_, fun w hw => am_up_ne hw⟩
    · simp (disch := omega) only [fxX10_worksOut_b21, fxX10_worksOut_b149, fxX10_worksOut_b78, am_gd_t, am_lt_e, am_bd_s, bi_0, bi_bz, bz0, bz1, nz2, nz10, nz100, hp_gi, hp_si, ↓reduceIte, if_true, if_false, Bool.true_eq_false, Bool.false_eq_true, eq_self, reduceCtorEq, zo0, zp0_0, zp0_1, zp0_2, zp0_4, zp0_5, zp0_6, zp0_7, zp0_8, zp0_9, zp0_10, zo1, zp1_0, zp1_5, zp1_6, zp1_9, zo16, zp16_0, zp16_5, zp16_6, zp16_9, zo31, zp31_0, zp31_5, zp31_6, zp31_9, zo46, zp46_0, zp46_1, zp46_2, zo79, zp79_0, zo83, zp83_0, zp83_1, zp83_2, zo87, zp87_0, zp87_1, zo121, zp121_0, zp121_1, zp121_2, zp121_4, zp121_5, zp121_6, zp121_7, zp121_8, zp121_16, zp121_17, zp121_18, zp121_21, zp121_23, zp121_24, zp121_25, zp121_26, zp121_27, zp121_28, zp121_29, zp121_30, zp121_31, zp121_32, zp121_33, zp121_34, zp79_2, zx2, zx13, zx14, zx15, zx17, zx28, zx29, zx30, zx32, zx43, zx44, zx45, zx47, zx78, zx80, zx84, zx85, zx86, zx88, zx89, zx90, zx99, zx120, zx122, zx123, zx124, zx125, zx126, zx127, zx128, zx129, zx130, zx131, zx132, zx133, zx134, zx135, zx136, zx137, zx138, zx139, zx140, zx141, zx142, zx143, zx144, zx145, zg2, zg17, zg32, zgo3, zgo18, zgo33, zl47, zlo, zlp, zlx, zs90, zso, zsp, zsx, zt99, zto, ztp1, ztp2, ztgo, ztso, ztsp, ztsx, zc0, zi0, zc1, zi1, zc2, zi2, zc3, zi3, zc4, zi4, zc5, zi5, zin, zcl, nI_1, Bool.and_self, Bool.true_and, Bool.and_true, c1, nI104, em', p1, p2, p3, List.length_cons]
    · rw [up_row]
      exact ⟨up1_eq _ _ _, SR_up (Nat.le_refl _) hS⟩
  · subst em
    match st, hok, hS with
    | a :: r, _, hS =>
      simp only [List.length_cons] at hd
      have es : evS (M 136) (-10) (a :: r) = (if a = 0 then 1 else 0) :: r := rfl
      rw [es]
      refine ⟨am_up M 135 r.length (if a = 0 then 1 else 0), ?_, ?_, fun w hw => am_up_ne hw⟩
      · have e0 := hS.1
        simp (disch := omega) only [fxX10_worksOut_b21, fxX10_worksOut_b149, fxX10_worksOut_b115, am_gd_t, am_lt_e, am_bd_s, bi_0, bi_bz, bz0, bz1, nz2, nz10, nz100, hp_gi, hp_si, ↓reduceIte, if_true, if_false, Bool.true_eq_false, Bool.false_eq_true, eq_self, reduceCtorEq, zo0, zp0_0, zp0_1, zp0_2, zp0_4, zp0_5, zp0_6, zp0_7, zp0_8, zp0_9, zp0_10, zo1, zp1_0, zp1_5, zp1_6, zp1_9, zo16, zp16_0, zp16_5, zp16_6, zp16_9, zo31, zp31_0, zp31_5, zp31_6, zp31_9, zo46, zp46_0, zp46_1, zp46_2, zo79, zp79_0, zo83, zp83_0, zp83_1, zp83_2, zo87, zp87_0, zp87_1, zo121, zp121_0, zp121_1, zp121_2, zp121_4, zp121_5, zp121_6, zp121_7, zp121_8, zp121_16, zp121_17, zp121_18, zp121_21, zp121_23, zp121_24, zp121_25, zp121_26, zp121_27, zp121_28, zp121_29, zp121_30, zp121_31, zp121_32, zp121_33, zp121_34, zp79_2, zx2, zx13, zx14, zx15, zx17, zx28, zx29, zx30, zx32, zx43, zx44, zx45, zx47, zx78, zx80, zx84, zx85, zx86, zx88, zx89, zx90, zx99, zx120, zx122, zx123, zx124, zx125, zx126, zx127, zx128, zx129, zx130, zx131, zx132, zx133, zx134, zx135, zx136, zx137, zx138, zx139, zx140, zx141, zx142, zx143, zx144, zx145, zg2, zg17, zg32, zgo3, zgo18, zgo33, zl47, zlo, zlp, zlx, zs90, zso, zsp, zsx, zt99, zto, ztp1, ztp2, ztgo, ztso, ztsp, ztsx, zc0, zi0, zc1, zi1, zc2, zi2, zc3, zi3, zc4, zi4, zc5, zi5, zin, zcl, nI_1, Bool.and_self, Bool.true_and, Bool.and_true, c1, nI104, em', List.length_cons, show ((-10 : Int32) < 0) = True from by decide, nI_pred, e0]
        split <;> rfl
      · rw [up_row]
        exact ⟨up1_eq _ _ _, SR_up (Nat.le_refl _) hS.2⟩
  · obtain ⟨s1, s2, s3, s4, s5⟩ := sgn_neg hm
    unfold okS at hok
    simp only [s3, s5, if_false] at hok
    match st, hok, hS with
    | b :: a :: r, _, hS =>
      simp only [List.length_cons] at hd
      have es : evS (M 136) m (b :: a :: r) = twoS m a b :: r := by unfold evS; simp only [s3, s5, ↓reduceIte, if_true, if_false, Bool.true_eq_false, Bool.false_eq_true, eq_self, reduceCtorEq]
      rw [es]
      refine ⟨am_up M 135 r.length (twoS m a b), ?_, ?_, fun w hw => am_up_ne hw⟩
      · have e0 : M 135 (r.length + 1) = b := hS.1
        have e1 : M 135 r.length = a := hS.2.1
        simp (disch := omega) only [fxX10_worksOut_b21, fxX10_worksOut_b149, am_gd_t, am_lt_e, am_bd_s, bi_0, bi_bz, bz0, bz1, nz2, nz10, nz100, hp_gi, hp_si, ↓reduceIte, if_true, if_false, Bool.true_eq_false, Bool.false_eq_true, eq_self, reduceCtorEq, zo0, zp0_0, zp0_1, zp0_2, zp0_4, zp0_5, zp0_6, zp0_7, zp0_8, zp0_9, zp0_10, zo1, zp1_0, zp1_5, zp1_6, zp1_9, zo16, zp16_0, zp16_5, zp16_6, zp16_9, zo31, zp31_0, zp31_5, zp31_6, zp31_9, zo46, zp46_0, zp46_1, zp46_2, zo79, zp79_0, zo83, zp83_0, zp83_1, zp83_2, zo87, zp87_0, zp87_1, zo121, zp121_0, zp121_1, zp121_2, zp121_4, zp121_5, zp121_6, zp121_7, zp121_8, zp121_16, zp121_17, zp121_18, zp121_21, zp121_23, zp121_24, zp121_25, zp121_26, zp121_27, zp121_28, zp121_29, zp121_30, zp121_31, zp121_32, zp121_33, zp121_34, zp79_2, zx2, zx13, zx14, zx15, zx17, zx28, zx29, zx30, zx32, zx43, zx44, zx45, zx47, zx78, zx80, zx84, zx85, zx86, zx88, zx89, zx90, zx99, zx120, zx122, zx123, zx124, zx125, zx126, zx127, zx128, zx129, zx130, zx131, zx132, zx133, zx134, zx135, zx136, zx137, zx138, zx139, zx140, zx141, zx142, zx143, zx144, zx145, zg2, zg17, zg32, zgo3, zgo18, zgo33, zl47, zlo, zlp, zlx, zs90, zso, zsp, zsx, zt99, zto, ztp1, ztp2, ztgo, ztso, ztsp, ztsx, zc0, zi0, zc1, zi1, zc2, zi2, zc3, zi3, zc4, zi4, zc5, zi5, zin, zcl, nI_1, Bool.and_self, Bool.true_and, Bool.and_true, c1, nI104, em', s4, s5, List.length_cons, nI_pred, pk_m1, e0, e1, q_two]
      · rw [up_row]
        exact ⟨up1_eq _ _ _, SR_up (by omega) hS.2.2⟩
theorem q_works {lp t : Nat} {M0 M : Mem} (ht : t < 14) (hT : TR M0 t (M 122)) : ∃ M', fxX10_worksOut (some 121) (nI t) (hp lp M) = some (evalS (M 122) t (M 136), hp lp M') ∧ ∀ w, w ≠ 135 → M' w = M w := by
  obtain ⟨K, n, o, h1, h2, h3, h4, h5, h6, h7, h8, h9, h10, -⟩ := hT
  have hn : cn (M 122 (76 + 2 * t)) % 1000 = n := by rw [h4, cn_nI (by omega)]; omega
  generalize hcode : (fun k => M 122 (104 + 96 * t + k)) = code at h10
  have hck : ∀ k, M 122 (104 + 96 * t + k) = code k := fun k => by rw [← hcode]
  have L : ∀ j k fuel (M1 : Mem), k + j = n → j < fuel → SR (M1 135) (evN (M 136) code k) → (∀ w, w ≠ 135 → M1 w = M w) → ∃ M', fxX10_worksOut_b21 fuel (some 121) (nI t) (nI (evN (M 136) code k).length) (nI n) (nI k) (hp lp M1) = some ((evN (M 136) code n).headD 0, hp lp M') ∧ ∀ w, w ≠ 135 → M' w = M w := by
    intro j
    induction j with
    | zero =>
      intro k fuel M1 hk hf hS hr
      obtain ⟨fuel, rfl⟩ : ∃ f, fuel = f + 1 := ⟨fuel - 1, by omega⟩
      obtain rfl : k = n := by omega
      obtain ⟨v, hv⟩ := evN_one (f := M 136) h10
      rw [hv] at hS ⊢
      refine ⟨M1, ?_, hr⟩
      have e0 : M1 135 0 = v := hS.1
      simp (disch := omega) only [fxX10_worksOut_b21, am_gd_t, am_lt_e, am_bd_s, bi_0, bi_bz, bz0, bz1, nz2, nz10, nz100, hp_gi, hp_si, ↓reduceIte, if_true, if_false, Bool.true_eq_false, Bool.false_eq_true, eq_self, reduceCtorEq, zo0, zp0_0, zp0_1, zp0_2, zp0_4, zp0_5, zp0_6, zp0_7, zp0_8, zp0_9, zp0_10, zo1, zp1_0, zp1_5, zp1_6, zp1_9, zo16, zp16_0, zp16_5, zp16_6, zp16_9, zo31, zp31_0, zp31_5, zp31_6, zp31_9, zo46, zp46_0, zp46_1, zp46_2, zo79, zp79_0, zo83, zp83_0, zp83_1, zp83_2, zo87, zp87_0, zp87_1, zo121, zp121_0, zp121_1, zp121_2, zp121_4, zp121_5, zp121_6, zp121_7, zp121_8, zp121_16, zp121_17, zp121_18, zp121_21, zp121_23, zp121_24, zp121_25, zp121_26, zp121_27, zp121_28, zp121_29, zp121_30, zp121_31, zp121_32, zp121_33, zp121_34, zp79_2, zx2, zx13, zx14, zx15, zx17, zx28, zx29, zx30, zx32, zx43, zx44, zx45, zx47, zx78, zx80, zx84, zx85, zx86, zx88, zx89, zx90, zx99, zx120, zx122, zx123, zx124, zx125, zx126, zx127, zx128, zx129, zx130, zx131, zx132, zx133, zx134, zx135, zx136, zx137, zx138, zx139, zx140, zx141, zx142, zx143, zx144, zx145, zg2, zg17, zg32, zgo3, zgo18, zgo33, zl47, zlo, zlp, zlx, zs90, zso, zsp, zsx, zt99, zto, ztp1, ztp2, ztgo, ztso, ztsp, ztsx, zc0, zi0, zc1, zi1, zc2, zi2, zc3, zi3, zc4, zi4, zc5, zi5, zin, zcl, nI_1, Bool.and_self, Bool.true_and, Bool.and_true, zle', show am_in (0 : Int32) 96 = true from rfl, e0, List.headD_cons]
    | succ j ih =>
      intro k fuel M1 hk hf hS hr
      obtain ⟨fuel, rfl⟩ : ∃ f, fuel = f + 1 := ⟨fuel - 1, by omega⟩
      obtain ⟨o1, o2⟩ := evN_ok (f := M 136) h10 (show k < n by omega)
      have r136 : M1 136 = M 136 := hr 136 (by decide)
      obtain ⟨M2, q1, q2, q3⟩ := works_step (lp := lp) (fuel := fuel) (M := M1) (m := code k) (c := M0 (49 + 2 * t) k) ht h2 (show k < n by omega) o2 (by rw [hr _ (by decide)]; exact hck k) (by rw [← hck k]; exact h9 k (by omega)) o1 hS
      rw [r136] at q1 q2
      obtain ⟨M', r1, r2⟩ := ih (k + 1) fuel M2 (by omega) (by omega) q2 (fun w hw => by rw [q3 w hw, hr w hw])
      exact ⟨M', by rw [q1]; exact r1, r2⟩
  obtain ⟨M', q1, q2⟩ := L n 0 am_F M (by omega) (by unfold am_F; omega) trivial (fun _ _ => rfl)
  refine ⟨M', ?_, q2⟩
  unfold evalS
  rw [hn, hcode, ← q1]
  have hrem : am_rem (nI (1000 * K + n)) 1000 = nI n := by
    rw [show (1000 : Int32) = nI 1000 from rfl]
    unfold am_rem
    rw [pk_rem (by omega) (by decide) (by decide)]
    congr 1; omega
  simp (disch := omega) only [fxX10_worksOut, am_gd_t, am_lt_e, am_bd_s, bi_0, bi_bz, bz0, bz1, nz2, nz10, nz100, hp_gi, hp_si, ↓reduceIte, if_true, if_false, Bool.true_eq_false, Bool.false_eq_true, eq_self, reduceCtorEq, zo0, zp0_0, zp0_1, zp0_2, zp0_4, zp0_5, zp0_6, zp0_7, zp0_8, zp0_9, zp0_10, zo1, zp1_0, zp1_5, zp1_6, zp1_9, zo16, zp16_0, zp16_5, zp16_6, zp16_9, zo31, zp31_0, zp31_5, zp31_6, zp31_9, zo46, zp46_0, zp46_1, zp46_2, zo79, zp79_0, zo83, zp83_0, zp83_1, zp83_2, zo87, zp87_0, zp87_1, zo121, zp121_0, zp121_1, zp121_2, zp121_4, zp121_5, zp121_6, zp121_7, zp121_8, zp121_16, zp121_17, zp121_18, zp121_21, zp121_23, zp121_24, zp121_25, zp121_26, zp121_27, zp121_28, zp121_29, zp121_30, zp121_31, zp121_32, zp121_33, zp121_34, zp79_2, zx2, zx13, zx14, zx15, zx17, zx28, zx29, zx30, zx32, zx43, zx44, zx45, zx47, zx78, zx80, zx84, zx85, zx86, zx88, zx89, zx90, zx99, zx120, zx122, zx123, zx124, zx125, zx126, zx127, zx128, zx129, zx130, zx131, zx132, zx133, zx134, zx135, zx136, zx137, zx138, zx139, zx140, zx141, zx142, zx143, zx144, zx145, zg2, zg17, zg32, zgo3, zgo18, zgo33, zl47, zlo, zlp, zlx, zs90, zso, zsp, zsx, zt99, zto, ztp1, ztp2, ztgo, ztso, ztsp, ztsx, zc0, zi0, zc1, zi1, zc2, zi2, zc3, zi3, zc4, zi4, zc5, zi5, zin, zcl, nI_1, Bool.and_self, Bool.true_and, Bool.and_true, nI76, nz1000, h4, hrem]
  rfl
/-- facts that a law does not name don't count -/
theorem eval_congr {M : Mem} {t : Nat} {g f f' : Nat → Int32} (hT : TR M t g) (h : ∀ K, g (76 + 2 * t) / 1000 = nI K → ∀ i, i < (if K = 0 then 3 else 2) → f i = f' i) : evalS g t f = evalS g t f' := by
  obtain ⟨K, n, o, h1, h2, h3, h4, h5, h6, h7, h8, h9, h10, h11⟩ := hT
  have hn : cn (g (76 + 2 * t)) % 1000 = n := by rw [h4, cn_nI (by omega)]; omega
  have hK : g (76 + 2 * t) / 1000 = nI K := by
    rw [h4, show (1000 : Int32) = nI 1000 from rfl, pk_div (by omega) (by decide) (by decide)]
    congr 1; omega
  have h' := h K hK
  unfold evalS
  rw [hn]
  have L : ∀ k, k ≤ n → evN f (fun k => g (104 + 96 * t + k)) k = evN f' (fun k => g (104 + 96 * t + k)) k := by
    intro k
    induction k with
    | zero => intro _; rfl
    | succ k ih =>
      intro hk
      show evS f _ (evN f _ k) = evS f' _ (evN f' _ k)
      rw [ih (by omega)]
      have hc := h9 k (by omega)
      rcases crel_cases hc with ⟨v, hv, ec, em⟩ | ⟨i, hi, ec, em⟩ | ⟨ec, em⟩ | hm
      · have p1 : ((10000 : Int32) ≤ g (104 + 96 * t + k)) = False := by rw [em]; exact eq_false (nI_ge (b := 10000) (by omega) (by decide))
        unfold evS
        simp only [p1, if_false]
      · have p3 : g (104 + 96 * t + k) - 10000 = nI i := by rw [em, m10k, m10s]
        have hfi := h' i (h11 k (by omega) i em hi)
        unfold evS
        simp only [p3, cn_nI (show i < 2 ^ 31 by omega), hfi]
      · unfold evS
        simp only [em, show ((0 : Int32) ≤ -10) = False from by decide, if_false]
      · obtain ⟨s1, s2, s3, s4, s5⟩ := sgn_neg hm
        unfold evS
        simp only [s3, if_false]
  rw [L n (Nat.le_refl _)]
def mnS (a b : Int32) : Int32 := if b ≤ a then b else a
def mxS (a b : Int32) : Int32 := if b ≤ a then a else b
theorem mmin_e (a b : Int32) : am_mmin a b = mnS a b := by
  unfold am_mmin mnS
  by_cases h : b < a
  · rw [if_pos h, if_pos (Int32.le_of_lt h)]
  · rw [if_neg h]
    by_cases h2 : b ≤ a
    · rw [if_pos h2]; exact Int32.le_antisymm (Int32.not_lt.mp h) h2
    · rw [if_neg h2]
theorem mmax_e (a b : Int32) : am_mmax a b = mxS a b := by
  unfold am_mmax mxS
  by_cases h : b ≤ a
  · rw [if_pos h]
    by_cases h2 : a < b
    · exact absurd h (Int32.not_le.mpr h2)
    · rw [if_neg h2]
  · rw [if_neg h, if_pos (Int32.not_le.mp h)]
/-- what two gloves are worth, by the law of pairs that counts -/
def vlS (g : Nat → Int32) (a b : Nat → Int32) : Int32 := if lastK g 0 (cn (g 5)) = -1 then clampS (a 3 + b 3 - (a 4 + b 4) / 10) 0 999 else clampS (evalS g (cn (lastK g 0 (cn (g 5)))) (f3 (mnS (a 3) (b 3)) (mxS (a 3) (b 3)) (a 4 + b 4))) 0 999
def pvS (g : Nat → Int32) (i j : Nat) : Int32 := if pairS (mg g i) (mg g j) = true then vlS g (mg g i) (mg g j) else -1
theorem vlS_congr {g a a' b b' : Nat → Int32} (h1 : ∀ j, j < 6 → a j = a' j) (h2 : ∀ j, j < 6 → b j = b' j) : vlS g a b = vlS g a' b' := by
  unfold vlS
  rw [h1 3 (by decide), h1 4 (by decide), h2 3 (by decide), h2 4 (by decide)]
theorem vlS_nI (g a b : Nat → Int32) : ∃ v, v ≤ 999 ∧ vlS g a b = nI v := by
  unfold vlS
  split
  · exact clamp_nI _ 999 (by decide)
  · exact clamp_nI _ 999 (by decide)
theorem lastK_key {g : Nat → Int32} {key : Int32} : ∀ {n t : Nat}, n ≤ 1000 → lastK g key n = nI t → t < 1000 → g (76 + 2 * t) / 1000 = key := by
  intro n
  induction n with
  | zero =>
    intro t hn h ht
    exfalso
    have h : (-1 : Int32) = nI t := h
    have := nI_pos' (n := t) (by omega)
    rw [← h] at this
    revert this; decide
  | succ n ih =>
    intro t hn h ht
    unfold lastK at h
    split at h
    · next q =>
      have := (nI_eq (by omega) (by omega)).mp h
      subst this
      exact q
    · exact ih (by omega) h ht
theorem nI_nm1 {t : Nat} (h : t < 1000000) : (nI t = -1) = False := eq_false (fun q => by
  have := nI_pos' (n := t) (by omega)
  rw [q] at this
  revert this; decide)
theorem q_pairValue {lp gb i j : Nat} {M : Mem} {g : Nat → Int32} (hg : isGu gb) (hR : RC M gb g) (hi : i < cn (g 1)) (hj : j < cn (g 1)) : ∃ M', fxX2_pairValue (some gb) (nI i) (nI j) (some 46) (hp lp M) = some (pvS g i j, hp lp M') ∧ ∀ w, w ≠ 78 → M' w = M w := by
  obtain ⟨hn, en⟩ := hR.2.2.2.2.1.n
  have h14 := hR.2.2.2.2.1.t.1
  obtain ⟨v1, w1⟩ := hR.gv hi
  obtain ⟨v2, w2⟩ := hR.gv hj
  have hps : pairS (M (gb + 2 + i)) (M (gb + 2 + j)) = pairS (mg g i) (mg g j) := pairS_congr w1 w2
  have hpw := q_pairsWith (lp := lp) (isG_gl hg (show i < 10 by omega)) (isG_gl hg (show j < 10 by omega)) v1 v2
  rw [hps] at hpw
  have e3 : M (gb + 2 + i) 3 = mg g i 3 := w1 3 (by decide)
  have e4 : M (gb + 2 + i) 4 = mg g i 4 := w1 4 (by decide)
  have f3' : M (gb + 2 + j) 3 = mg g j 3 := w2 3 (by decide)
  have f4 : M (gb + 2 + j) 4 = mg g j 4 := w2 4 (by decide)
  have ek : M (gb + 14) 0 = lastK g 0 (cn (g 5)) := hR.2.2.2.1.2 0 (by decide)
  unfold pvS
  cases hp : pairS (mg g i) (mg g j) with
  | false =>
    refine ⟨M, ?_, fun _ _ => rfl⟩
    simp (disch := omega) only [fxX2_pairValue, am_gd_t, am_lt_e, am_bd_s, bi_0, bi_bz, bz0, bz1, nz2, nz10, nz100, hp_gi, hp_si, ↓reduceIte, if_true, if_false, Bool.true_eq_false, Bool.false_eq_true, eq_self, reduceCtorEq, zin, zcl, nI_1, Bool.and_self, Bool.true_and, Bool.and_true, ob_gu hg, gu_0 hg, x_gu1 hg, gu_gl hg, gu_go hg, hpw, hp]
  | true =>
    rw [if_pos rfl]
    rcases lastK_c g 0 (cn (g 5)) with h | ⟨t, ht, h⟩
    · refine ⟨M, ?_, fun _ _ => rfl⟩
      unfold vlS
      rw [h, if_pos rfl]
      rw [h] at ek
      simp (disch := omega) only [fxX2_pairValue, am_gd_t, am_lt_e, am_bd_s, bi_0, bi_bz, bz0, bz1, nz2, nz10, nz100, hp_gi, hp_si, ↓reduceIte, if_true, if_false, Bool.true_eq_false, Bool.false_eq_true, eq_self, reduceCtorEq, zin, zcl, nI_1, Bool.and_self, Bool.true_and, Bool.and_true, ob_gu hg, gu_0 hg, gu_9 hg, x_gu1 hg, x_gu14 hg, gu_gl hg, gu_go hg, hpw, hp, e3, e4, f3', f4, show am_in (0 : Int32) 3 = true from rfl, zc0, ek]
      congr 2
      obtain ⟨p, hp1, hp2⟩ := v1 3 (by decide)
      obtain ⟨q, hq1, hq2⟩ := v2 3 (by decide)
      obtain ⟨r, hr1, hr2⟩ := v1 4 (by decide)
      obtain ⟨s, hs1, hs2⟩ := v2 4 (by decide)
      have hp1 : p ≤ 99 := hp1
      have hq1 : q ≤ 99 := hq1
      have hr1 : r ≤ 99 := hr1
      have hs1 : s ≤ 99 := hs1
      rw [← e3, ← f3', ← e4, ← f4, hp2, hq2, hr2, hs2, nI_add, nI_add, show (10 : Int32) = nI 10 from rfl, pk_div (by omega) (by decide) (by decide), mmax_e]
      unfold mxS clampS
      have hle : nI (p + q) - nI ((r + s) / 10) ≤ (999 : Int32) := by
        rw [Int32.le_iff_toInt_le, pk_sub_toInt (by omega) (by omega), show (999 : Int32).toInt = 999 from rfl]
        omega
      by_cases h0 : nI (p + q) - nI ((r + s) / 10) ≤ 0
      · rw [if_pos h0]
        by_cases h1 : (0 : Int32) ≤ nI (p + q) - nI ((r + s) / 10)
        · rw [if_pos h1, if_pos hle]; exact (Int32.le_antisymm h0 h1).symm
        · rw [if_neg h1]
      · rw [if_neg h0, if_pos (Int32.le_of_lt (Int32.not_le.mp h0)), if_pos hle]
    · have hT := hR.2.2.2.1.1 t ht
      rw [h] at ek
      obtain ⟨M', q1, q2⟩ := q_give (lp := lp) (show t < 15 by omega) hT (mnS (mg g i 3) (mg g j 3)) (mxS (mg g i 3) (mg g j 3)) (mg g i 4 + mg g j 4)
      refine ⟨M', ?_, q2⟩
      unfold vlS
      rw [h, if_neg (by rw [nI_nm1 (by omega)]; exact not_false), cn_nI (by omega)]
      simp (disch := omega) only [fxX2_pairValue, am_gd_t, am_lt_e, am_bd_s, bi_0, bi_bz, bz0, bz1, nz2, nz10, nz100, hp_gi, hp_si, ↓reduceIte, if_true, if_false, Bool.true_eq_false, Bool.false_eq_true, eq_self, reduceCtorEq, zin, zcl, nI_1, Bool.and_self, Bool.true_and, Bool.and_true, ob_gu hg, gu_0 hg, gu_9 hg, x_gu1 hg, x_gu14 hg, gu_gl hg, gu_go hg, hpw, hp, e3, e4, f3', f4, show am_in (0 : Int32) 3 = true from rfl, zc0, ek, nI_nm1, mmin_e, mmax_e, zo46, q1, q_held _ 999 (show (0 : Int32) ≤ 999 by decide)]
theorem q_valueOf {lp i j : Nat} {M0 M : Mem} (hv : Vs (M 122)) (hT : ∀ t, t < cn (M 122 5) → TR M0 t (M 122)) (hi : i < 10) (hj : j < 10) : ∃ M', fxX10_valueOf (some 121) (nI i) (nI j) (hp lp M) = some (vlS (M 122) (mg (M 122) i) (mg (M 122) j), hp lp M') ∧ ∀ w, w ≠ 135 → w ≠ 136 → M' w = M w := by
  have h14 := hv.t.1
  have hcn := fun (M' : Mem) (e : M' 122 = M 122) => (show fxX10_counts (some 121) 0 (hp lp M') = some (lastK (M 122) 0 (cn (M 122 5)), hp lp M') by rw [q_counts (by rw [e]; exact hv), e])
  have o := fun (a j : Nat) (ha : a < 10) (h : j < 6) (J : Int32) (e : J = nI j) => q_of (lp := lp) (M := M) ha h J e
  generalize hA : M 122 (16 + 6 * i + 3) = A
  generalize hB : M 122 (16 + 6 * j + 3) = B
  generalize hW : M 122 (16 + 6 * i + 4) + M 122 (16 + 6 * j + 4) = W
  have o1 := o i 3 hi (by decide) (3 : Int32) rfl
  have o2 := o j 3 hj (by decide) (3 : Int32) rfl
  have o3 := o i 4 hi (by decide) (4 : Int32) rfl
  have o4 := o j 4 hj (by decide) (4 : Int32) rfl
  rw [hA] at o1
  rw [hB] at o2
  have evl : ∀ x, vlS (M 122) (mg (M 122) i) (mg (M 122) j) = x ↔ (if lastK (M 122) 0 (cn (M 122 5)) = -1 then clampS (A + B - W / 10) 0 999 else clampS (evalS (M 122) (cn (lastK (M 122) 0 (cn (M 122 5)))) (f3 (mnS A B) (mxS A B) W)) 0 999) = x := by
    intro x
    unfold vlS mg
    rw [hA, hB, hW]
  generalize hM1 : am_up (am_up (am_up M 136 0 (mnS A B)) 136 1 (mxS A B)) 136 2 W = M1
  have r1 : ∀ w, w ≠ 136 → M1 w = M w := fun w hw => by rw [← hM1, am_up_ne hw, am_up_ne hw, am_up_ne hw]
  have tail : ∀ T, fxX10_valueOf_b54 (some 121) A B W T (mnS A B) 0 (some 136) (hp lp M) = (if 0 ≤ T then (am_bd (fxX10_worksOut (some 121) T (hp lp M1)) (fun r20 h21 => am_bd (fxX10_within r20 (0 : Int32) (999 : Int32) h21) (fun r22 h23 => some (r22, h23)))) else some (clampS (A + B - W / 10) 0 999, hp lp M1)) := by
    intro T
    have key : ∀ x, x = mxS A B → fxX10_valueOf_b72 (some 121) A B W T x 1 (some 136) (hp lp (am_up M 136 0 (mnS A B))) = (if 0 ≤ T then (am_bd (fxX10_worksOut (some 121) T (hp lp M1)) (fun r20 h21 => am_bd (fxX10_within r20 (0 : Int32) (999 : Int32) h21) (fun r22 h23 => some (r22, h23)))) else some (clampS (A + B - W / 10) 0 999, hp lp M1)) := by
      intro x hx
      subst hx
      simp only [fxX10_valueOf_b72, am_gd_t, am_lt_e, am_bd_s, bi_0, bi_bz, bz0, bz1, nz2, nz10, nz100, hp_gi, hp_si, ↓reduceIte, if_true, if_false, Bool.true_eq_false, Bool.false_eq_true, eq_self, reduceCtorEq, zo0, zp0_0, zp0_1, zp0_2, zp0_4, zp0_5, zp0_6, zp0_7, zp0_8, zp0_9, zp0_10, zo1, zp1_0, zp1_5, zp1_6, zp1_9, zo16, zp16_0, zp16_5, zp16_6, zp16_9, zo31, zp31_0, zp31_5, zp31_6, zp31_9, zo46, zp46_0, zp46_1, zp46_2, zo79, zp79_0, zo83, zp83_0, zp83_1, zp83_2, zo87, zp87_0, zp87_1, zo121, zp121_0, zp121_1, zp121_2, zp121_4, zp121_5, zp121_6, zp121_7, zp121_8, zp121_16, zp121_17, zp121_18, zp121_21, zp121_23, zp121_24, zp121_25, zp121_26, zp121_27, zp121_28, zp121_29, zp121_30, zp121_31, zp121_32, zp121_33, zp121_34, zp79_2, zx2, zx13, zx14, zx15, zx17, zx28, zx29, zx30, zx32, zx43, zx44, zx45, zx47, zx78, zx80, zx84, zx85, zx86, zx88, zx89, zx90, zx99, zx120, zx122, zx123, zx124, zx125, zx126, zx127, zx128, zx129, zx130, zx131, zx132, zx133, zx134, zx135, zx136, zx137, zx138, zx139, zx140, zx141, zx142, zx143, zx144, zx145, zg2, zg17, zg32, zgo3, zgo18, zgo33, zl47, zlo, zlp, zlx, zs90, zso, zsp, zsx, zt99, zto, ztp1, ztp2, ztgo, ztso, ztsp, ztsx, zc0, zi0, zc1, zi1, zc2, zi2, zc3, zi3, zc4, zi4, zc5, zi5, show am_in (1 : Int32) 4 = true from rfl, show am_in (2 : Int32) 4 = true from rfl, hM1, q_mwithin]
    unfold fxX10_valueOf_b54
    simp only [am_gd_t, am_lt_e, am_bd_s, bi_0, bi_bz, bz0, bz1, nz2, nz10, nz100, hp_gi, hp_si, ↓reduceIte, if_true, if_false, Bool.true_eq_false, Bool.false_eq_true, eq_self, reduceCtorEq, zo0, zp0_0, zp0_1, zp0_2, zp0_4, zp0_5, zp0_6, zp0_7, zp0_8, zp0_9, zp0_10, zo1, zp1_0, zp1_5, zp1_6, zp1_9, zo16, zp16_0, zp16_5, zp16_6, zp16_9, zo31, zp31_0, zp31_5, zp31_6, zp31_9, zo46, zp46_0, zp46_1, zp46_2, zo79, zp79_0, zo83, zp83_0, zp83_1, zp83_2, zo87, zp87_0, zp87_1, zo121, zp121_0, zp121_1, zp121_2, zp121_4, zp121_5, zp121_6, zp121_7, zp121_8, zp121_16, zp121_17, zp121_18, zp121_21, zp121_23, zp121_24, zp121_25, zp121_26, zp121_27, zp121_28, zp121_29, zp121_30, zp121_31, zp121_32, zp121_33, zp121_34, zp79_2, zx2, zx13, zx14, zx15, zx17, zx28, zx29, zx30, zx32, zx43, zx44, zx45, zx47, zx78, zx80, zx84, zx85, zx86, zx88, zx89, zx90, zx99, zx120, zx122, zx123, zx124, zx125, zx126, zx127, zx128, zx129, zx130, zx131, zx132, zx133, zx134, zx135, zx136, zx137, zx138, zx139, zx140, zx141, zx142, zx143, zx144, zx145, zg2, zg17, zg32, zgo3, zgo18, zgo33, zl47, zlo, zlp, zlx, zs90, zso, zsp, zsx, zt99, zto, ztp1, ztp2, ztgo, ztso, ztsp, ztsx, zc0, zi0, zc1, zi1, zc2, zi2, zc3, zi3, zc4, zi4, zc5, zi5, show am_in (0 : Int32) 4 = true from rfl]
    split
    · next h => exact key A (by unfold mxS; rw [if_pos h])
    · next h => exact key B (by unfold mxS; rw [if_neg h])
  have hd : ∀ T, lastK (M 122) 0 (cn (M 122 5)) = T → fxX10_valueOf (some 121) (nI i) (nI j) (hp lp M) = fxX10_valueOf_b54 (some 121) A B W T (mnS A B) 0 (some 136) (hp lp M) := by
    intro T hTT
    simp only [fxX10_valueOf, am_gd_t, am_lt_e, am_bd_s, bi_0, bi_bz, bz0, bz1, nz2, nz10, nz100, hp_gi, hp_si, ↓reduceIte, if_true, if_false, Bool.true_eq_false, Bool.false_eq_true, eq_self, reduceCtorEq, zo0, zp0_0, zp0_1, zp0_2, zp0_4, zp0_5, zp0_6, zp0_7, zp0_8, zp0_9, zp0_10, zo1, zp1_0, zp1_5, zp1_6, zp1_9, zo16, zp16_0, zp16_5, zp16_6, zp16_9, zo31, zp31_0, zp31_5, zp31_6, zp31_9, zo46, zp46_0, zp46_1, zp46_2, zo79, zp79_0, zo83, zp83_0, zp83_1, zp83_2, zo87, zp87_0, zp87_1, zo121, zp121_0, zp121_1, zp121_2, zp121_4, zp121_5, zp121_6, zp121_7, zp121_8, zp121_16, zp121_17, zp121_18, zp121_21, zp121_23, zp121_24, zp121_25, zp121_26, zp121_27, zp121_28, zp121_29, zp121_30, zp121_31, zp121_32, zp121_33, zp121_34, zp79_2, zx2, zx13, zx14, zx15, zx17, zx28, zx29, zx30, zx32, zx43, zx44, zx45, zx47, zx78, zx80, zx84, zx85, zx86, zx88, zx89, zx90, zx99, zx120, zx122, zx123, zx124, zx125, zx126, zx127, zx128, zx129, zx130, zx131, zx132, zx133, zx134, zx135, zx136, zx137, zx138, zx139, zx140, zx141, zx142, zx143, zx144, zx145, zg2, zg17, zg32, zgo3, zgo18, zgo33, zl47, zlo, zlp, zlx, zs90, zso, zsp, zsx, zt99, zto, ztp1, ztp2, ztgo, ztso, ztsp, ztsx, zc0, zi0, zc1, zi1, zc2, zi2, zc3, zi3, zc4, zi4, zc5, zi5, o1, o2, o3, o4, hcn M rfl, hTT, hW]
    split
    · next h => rw [show mnS A B = B by unfold mnS; rw [if_pos h]]
    · next h => rw [show mnS A B = A by unfold mnS; rw [if_neg h]]
  rcases lastK_c (M 122) 0 (cn (M 122 5)) with h | ⟨t, ht, h⟩
  · refine ⟨M1, ?_, fun w _ hw => r1 w hw⟩
    rw [hd _ h, tail, if_neg (by decide), (evl _).mpr (by rw [h, if_pos rfl])]
  · obtain ⟨M', q1, q2⟩ := q_works (lp := lp) (M := M1) (show t < 14 by omega) (by rw [r1 122 (by decide)]; exact hT t ht)
    refine ⟨M', ?_, fun w h1 h2 => by rw [q2 w h1, r1 w h2]⟩
    have hf : evalS (M 122) t (M1 136) = evalS (M 122) t (f3 (mnS A B) (mxS A B) W) := by
      refine eval_congr (hT t ht) fun K hK i hi' => ?_
      rw [← hM1]
      have hi3 : i < 3 := by split at hi' <;> omega
      rcases (show i = 0 ∨ i = 1 ∨ i = 2 by omega) with rfl | rfl | rfl
      · rw [up_nj (by decide), up_nj (by decide), up_eq]; rfl
      · rw [up_nj (by decide), up_eq]; rfl
      · rw [up_eq]; rfl
    rw [hd _ h, tail, if_pos (nI_pos' (by omega)), q1, r1 122 (by decide), hf, am_bd_s, q_mwithin, am_bd_s, (evl _).mpr (by rw [h, if_neg (by rw [nI_nm1 (by omega)]; exact not_false), cn_nI (by omega)])]
