/-! ===== days ===== -/
theorem iw_low {n : Int32} {a : Int32} (h0 : (0 : Int32) ≤ 1) (h : iw n 1 a = true) : iw n 0 a = true := by
  simp only [iw, Bool.and_eq_true, decide_eq_true_eq] at h ⊢
  exact ⟨Int32.le_trans h0 h.1, h.2⟩
theorem day_min {j m d : Nat} (hj : j ≤ 100) (hm : m ≤ 9999) (hd : min j (9999 - m) = d) : am_mmin (nI j) ((9999 : Int32) - nI m) = nI d ∧ clampS ((9999 : Int32) - nI m) 0 (nI j) = nI d := by
  rw [show (9999 : Int32) = nI 9999 from rfl, pk_sub hm]
  unfold am_mmin clampS
  rw [if_pos (nI_pos' (n := 9999 - m) (by omega))]
  by_cases q : 9999 - m < j
  · rw [if_pos (nI_lt q (by omega)), if_pos (nI_le (by omega) (by omega)), show d = 9999 - m by omega]
    exact ⟨rfl, rfl⟩
  · rw [if_neg (nI_nlt (by omega) (by omega)), show d = j by omega]
    refine ⟨rfl, ?_⟩
    by_cases q2 : 9999 - m = j
    · rw [q2, if_pos (Int32.le_refl _)]
    · rw [if_neg (nI_ge (by omega) (by omega))]
theorem add_sub_c (a b : Int32) : a + b - a = b := by
  rw [Int32.add_comm, Int32.add_sub_cancel]
theorem P_days (n : Int32) : Pair (fxX9_days (some 0) n) (fxX10_days (some 121) n) := by
  intro lp M hI
  cases hv : iw n 1 100 with
  | false => exact ⟨-1000000001, lp, M, M, by simp only [fxX9_days, am_gd_t, am_lt_e, am_bd_s, bi_0, bi_bz, bz0, bz1, nz2, nz10, nz100, hp_gi, hp_si, ob_0, ob_1, pt00, pt10, ↓reduceIte, if_true, if_false, Bool.true_eq_false, Bool.false_eq_true, eq_self, reduceCtorEq, q_within, hv], by simp only [fxX10_days, am_gd_t, am_lt_e, am_bd_s, bi_0, bi_bz, bz0, bz1, nz2, nz10, nz100, hp_gi, hp_si, ob_M, pm0, pm0i, ↓reduceIte, if_true, if_false, Bool.true_eq_false, Bool.false_eq_true, eq_self, reduceCtorEq, q_in, hv], hI⟩
  | true =>
    obtain ⟨j, hj, rfl⟩ := iw_lit 100 (b := 100) rfl (by decide) (iw_low (by decide) hv)
    have hR := hI.1.1
    obtain ⟨hc, ec⟩ := hR.2.2.2.2.1.n
    obtain ⟨m, hm, em⟩ := hR.2.2.2.2.1.2.1
    have hm9 : m ≤ 9999 := by have := hI.1.2; rw [em, cn_nI (by omega)] at this; exact this
    have h14 := hR.2.2.2.2.1.t.1
    generalize hd : min j (9999 - m) = d
    obtain ⟨hmin, hcl⟩ := day_min hj hm9 hd
    have e3 : M 1 3 = nI m := hR.1.2.2.1.trans em
    obtain ⟨M1, q1, q2, q3⟩ := q_live (lp := lp) (home := -1) gu1 d M (M 122) hR (by rw [em, cn_nI (by omega)]; omega) (by omega)
    have r122 : M1 122 = M 122 := q3 122 (by omega) (by decide)
    obtain ⟨M2, s1, s2, s3⟩ := q_goesOn (lp := lp) (M0 := M) (home := -1) d (by omega) M1 (by rw [r122]; exact ⟨hR.2.2.2.2.1, hR.2.2.2.1.1⟩) (by rw [r122, em, cn_nI (by omega)]; omega)
    rw [r122] at s1 s2
    have hl1 := lost_c (lp := lp) gu1 q2
    have e1 : liveG (-1) d (M 122) 1 = M 122 1 := liveG_lo _ _ _ hc (by decide) (by decide) (by decide)
    have e5 : liveG (-1) d (M 122) 5 = M 122 5 := liveG_lo _ _ _ hc (by decide) (by decide) (by decide)
    have e2 : liveG (-1) d (M 122) 2 = nI (m + d) := liveG_2 _ _ _ hc em
    rw [e1, liveL_lost _ _ hc] at hl1
    have er : ∀ z, ¬ (1 ≤ z ∧ z ≤ 15) → z ≠ 78 → z ≠ 122 → z ≠ 135 → z ≠ 136 → M2 z = M z := fun z z1 z2 z3 z4 z5 => by rw [s3 z z3 z4 z5, q3 z (by omega) z2]
    refine ⟨liveL (-1) d (M 122), lp, M1, M2, ?_, ?_, ?_⟩
    · simp only [fxX9_days, am_gd_t, am_lt_e, am_bd_s, bi_0, bi_bz, bz0, bz1, nz2, nz10, nz100, hp_gi, hp_si, ob_0, ob_1, pt00, pt10, ↓reduceIte, if_true, if_false, Bool.true_eq_false, Bool.false_eq_true, eq_self, reduceCtorEq, zo0, zp0_0, zp0_1, zp0_2, zp0_4, zp0_5, zp0_6, zp0_7, zp0_8, zp0_9, zp0_10, zo1, zp1_0, zp1_5, zp1_6, zp1_9, zo16, zp16_0, zp16_5, zp16_6, zp16_9, zo31, zp31_0, zp31_5, zp31_6, zp31_9, zo46, zp46_0, zp46_1, zp46_2, zo79, zp79_0, zo83, zp83_0, zp83_1, zp83_2, zo87, zp87_0, zp87_1, zo121, zp121_0, zp121_1, zp121_2, zp121_4, zp121_5, zp121_6, zp121_7, zp121_8, zp121_16, zp121_17, zp121_18, zp121_21, zp121_23, zp121_24, zp121_25, zp121_26, zp121_27, zp121_28, zp121_29, zp121_30, zp121_31, zp121_32, zp121_33, zp121_34, zp79_2, zx2, zx13, zx14, zx15, zx17, zx28, zx29, zx30, zx32, zx43, zx44, zx45, zx47, zx78, zx80, zx84, zx85, zx86, zx88, zx89, zx90, zx99, zx120, zx122, zx123, zx124, zx125, zx126, zx127, zx128, zx129, zx130, zx131, zx132, zx133, zx134, zx135, zx136, zx137, zx138, zx139, zx140, zx141, zx142, zx143, zx144, zx145, zg2, zg17, zg32, zgo3, zgo18, zgo33, zl47, zlo, zlp, zlx, zs90, zso, zsp, zsx, zt99, zto, ztp1, ztp2, ztgo, ztso, ztsp, ztsx, zc0, zi0, zc1, zi1, zc2, zi2, zc3, zi3, zc4, zi4, zc5, zi5, q_within, hv, lost_c gu1 hR, e3, hmin, q1, hl1, add_sub_c]
    · simp only [fxX10_days, am_gd_t, am_lt_e, am_bd_s, bi_0, bi_bz, bz0, bz1, nz2, nz10, nz100, hp_gi, hp_si, ob_M, pm0, pm0i, ↓reduceIte, if_true, if_false, Bool.true_eq_false, Bool.false_eq_true, eq_self, reduceCtorEq, zo0, zp0_0, zp0_1, zp0_2, zp0_4, zp0_5, zp0_6, zp0_7, zp0_8, zp0_9, zp0_10, zo1, zp1_0, zp1_5, zp1_6, zp1_9, zo16, zp16_0, zp16_5, zp16_6, zp16_9, zo31, zp31_0, zp31_5, zp31_6, zp31_9, zo46, zp46_0, zp46_1, zp46_2, zo79, zp79_0, zo83, zp83_0, zp83_1, zp83_2, zo87, zp87_0, zp87_1, zo121, zp121_0, zp121_1, zp121_2, zp121_4, zp121_5, zp121_6, zp121_7, zp121_8, zp121_16, zp121_17, zp121_18, zp121_21, zp121_23, zp121_24, zp121_25, zp121_26, zp121_27, zp121_28, zp121_29, zp121_30, zp121_31, zp121_32, zp121_33, zp121_34, zp79_2, zx2, zx13, zx14, zx15, zx17, zx28, zx29, zx30, zx32, zx43, zx44, zx45, zx47, zx78, zx80, zx84, zx85, zx86, zx88, zx89, zx90, zx99, zx120, zx122, zx123, zx124, zx125, zx126, zx127, zx128, zx129, zx130, zx131, zx132, zx133, zx134, zx135, zx136, zx137, zx138, zx139, zx140, zx141, zx142, zx143, zx144, zx145, zg2, zg17, zg32, zgo3, zgo18, zgo33, zl47, zlo, zlp, zlx, zs90, zso, zsp, zsx, zt99, zto, ztp1, ztp2, ztgo, ztso, ztsp, ztsx, zc0, zi0, zc1, zi1, zc2, zi2, zc3, zi3, zc4, zi4, zc5, zi5, q_in, hv, r122, em, q_mwithin, hcl, s1]
    · refine hI.guilds (fun k k1 k2 k3 k4 k5 => er k (by omega) (fun q => k5 (by unfold scrP; omega)) k3 (fun q => k5 (by unfold scrP; omega)) (fun q => k5 (by unfold scrP; omega))) (by rw [er 0 (by omega) (by decide) (by decide) (by decide) (by decide)]) (by rw [er 121 (by omega) (by decide) (by decide) (by decide) (by decide)]) (by rw [er 121 (by omega) (by decide) (by decide) (by decide) (by decide)]) ?_ ?_ ?_
      · rw [s2]
        exact RC_congr (fun k k1 k2 => s3 k (by omega) (by omega) (by omega)) (fun k k1 k2 => s3 k (by omega) (by omega) (by omega)) q2
      · rw [s2, e2, cn_nI (by omega)]; omega
      · refine RI_congr (fun k k1 k2 => er k (by omega) (by omega) (by omega) (by omega) (by omega)) (fun k k1 k2 => er k (by omega) (by omega) (by omega) (by omega) (by omega)) (er 123 (by omega) (by decide) (by decide) (by decide) (by decide)) (by rw [er 0 (by omega) (by decide) (by decide) (by decide) (by decide)]) (by rw [er 121 (by omega) (by decide) (by decide) (by decide) (by decide)]) ?_ hI.2.1
        rw [s2, e5]; exact Nat.le_refl _
