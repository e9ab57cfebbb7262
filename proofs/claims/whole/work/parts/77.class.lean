/-! ===== pieces, levels ===== -/
theorem q_number {lp n st en : Nat} {b : Nat → Nat} {N : Mem} {f s : Int32} (hB : TpC N b n) (h1 : st ≤ en) (h2 : en ≤ n) (hd : ∀ j, st ≤ j → j < en → 48 ≤ b j ∧ b j ≤ 57) : fxX8_number (some 79) (hp lp (TM N f s (nI st) (nI en))) = some (nI (dv b st (en - st)), hp lp (TM N f s (nI st) (nI en))) := by
  obtain ⟨hn, e1, e2⟩ := hB
  have L : ∀ k i fuel, i + k = en → st ≤ i → k < fuel → fxX8_number_b7 fuel (some 79) (nI (dv b st (i - st))) (nI i) (hp lp (TM N f s (nI st) (nI en))) = some (nI (dv b st (en - st)), hp lp (TM N f s (nI st) (nI en))) := by
    intro k
    induction k with
    | zero =>
      intro i fuel hi hst hf
      obtain ⟨fuel, rfl⟩ : ∃ f, fuel = f + 1 := ⟨fuel - 1, by omega⟩
      obtain rfl : i = en := by omega
      simp (disch := omega) only [fxX8_number_b7, am_gd_t, am_lt_e, am_bd_s, bi_0, bi_bz, bz0, bz1, nz2, nz10, nz100, hp_gi, hp_si, ↓reduceIte, if_true, if_false, Bool.true_eq_false, Bool.false_eq_true, eq_self, reduceCtorEq, zo0, zp0_0, zp0_1, zp0_2, zp0_4, zp0_5, zp0_6, zp0_7, zp0_8, zp0_9, zp0_10, zo1, zp1_0, zp1_5, zp1_6, zp1_9, zo16, zp16_0, zp16_5, zp16_6, zp16_9, zo31, zp31_0, zp31_5, zp31_6, zp31_9, zo46, zp46_0, zp46_1, zp46_2, zo79, zp79_0, zo83, zp83_0, zp83_1, zp83_2, zo87, zp87_0, zp87_1, zo121, zp121_0, zp121_1, zp121_2, zp121_4, zp121_5, zp121_6, zp121_7, zp121_8, zp121_16, zp121_17, zp121_18, zp121_21, zp121_23, zp121_24, zp121_25, zp121_26, zp121_27, zp121_28, zp121_29, zp121_30, zp121_31, zp121_32, zp121_33, zp121_34, zp79_2, zx2, zx13, zx14, zx15, zx17, zx28, zx29, zx30, zx32, zx43, zx44, zx45, zx47, zx78, zx80, zx84, zx85, zx86, zx88, zx89, zx90, zx99, zx120, zx122, zx123, zx124, zx125, zx126, zx127, zx128, zx129, zx130, zx131, zx132, zx133, zx134, zx135, zx136, zx137, zx138, zx139, zx140, zx141, zx142, zx143, zx144, zx145, zg2, zg17, zg32, zgo3, zgo18, zgo33, zl47, zlo, zlp, zlx, zs90, zso, zsp, zsx, zt99, zto, ztp1, ztp2, ztgo, ztso, ztsp, ztsx, zc0, zi0, zc1, zi1, zc2, zi2, zc3, zi3, zc4, zi4, zc5, zi5, tm_6, zle']
    | succ k ih =>
      intro i fuel hi hst hf
      obtain ⟨fuel, rfl⟩ : ∃ f, fuel = f + 1 := ⟨fuel - 1, by omega⟩
      obtain ⟨d1, d2⟩ := hd i hst (by omega)
      have hv : nI (dv b st (i - st)) * 10 + nI (b i) - 48 = nI (dv b st (i + 1 - st)) := by
        rw [show (10 : Int32) = nI 10 from rfl, show (48 : Int32) = nI 48 from rfl, pk_mul, nI_add, pk_sub (by omega)]
        congr 1
        rw [show i + 1 - st = (i - st) + 1 by omega, show dv b st ((i - st) + 1) = 10 * dv b st (i - st) + (b (st + (i - st)) - 48) from rfl, show st + (i - st) = i by omega]
        omega
      rw [← ih (i + 1) fuel (by omega) (by omega) (by omega)]
      simp (disch := omega) only [fxX8_number_b7, am_gd_t, am_lt_e, am_bd_s, bi_0, bi_bz, bz0, bz1, nz2, nz10, nz100, hp_gi, hp_si, ↓reduceIte, if_true, if_false, Bool.true_eq_false, Bool.false_eq_true, eq_self, reduceCtorEq, zo0, zp0_0, zp0_1, zp0_2, zp0_4, zp0_5, zp0_6, zp0_7, zp0_8, zp0_9, zp0_10, zo1, zp1_0, zp1_5, zp1_6, zp1_9, zo16, zp16_0, zp16_5, zp16_6, zp16_9, zo31, zp31_0, zp31_5, zp31_6, zp31_9, zo46, zp46_0, zp46_1, zp46_2, zo79, zp79_0, zo83, zp83_0, zp83_1, zp83_2, zo87, zp87_0, zp87_1, zo121, zp121_0, zp121_1, zp121_2, zp121_4, zp121_5, zp121_6, zp121_7, zp121_8, zp121_16, zp121_17, zp121_18, zp121_21, zp121_23, zp121_24, zp121_25, zp121_26, zp121_27, zp121_28, zp121_29, zp121_30, zp121_31, zp121_32, zp121_33, zp121_34, zp79_2, zx2, zx13, zx14, zx15, zx17, zx28, zx29, zx30, zx32, zx43, zx44, zx45, zx47, zx78, zx80, zx84, zx85, zx86, zx88, zx89, zx90, zx99, zx120, zx122, zx123, zx124, zx125, zx126, zx127, zx128, zx129, zx130, zx131, zx132, zx133, zx134, zx135, zx136, zx137, zx138, zx139, zx140, zx141, zx142, zx143, zx144, zx145, zg2, zg17, zg32, zgo3, zgo18, zgo33, zl47, zlo, zlp, zlx, zs90, zso, zsp, zsx, zt99, zto, ztp1, ztp2, ztgo, ztso, ztsp, ztsx, zc0, zi0, zc1, zi1, zc2, zi2, zc3, zi3, zc4, zi4, zc5, zi5, zin, zcl, nI_1, Bool.and_self, Bool.true_and, Bool.and_true, tm_1, tm_6, tm_80, e1, zle, (e2 i (by omega)).1, hv]
  have := L (en - st) st am_F (by omega) (Nat.le_refl _) (by unfold am_F; omega)
  rw [Nat.sub_self] at this
  simp only [fxX8_number, am_gd_t, am_lt_e, am_bd_s, bi_0, bi_bz, bz0, bz1, nz2, nz10, nz100, hp_gi, hp_si, ↓reduceIte, if_true, if_false, Bool.true_eq_false, Bool.false_eq_true, eq_self, reduceCtorEq, zo0, zp0_0, zp0_1, zp0_2, zp0_4, zp0_5, zp0_6, zp0_7, zp0_8, zp0_9, zp0_10, zo1, zp1_0, zp1_5, zp1_6, zp1_9, zo16, zp16_0, zp16_5, zp16_6, zp16_9, zo31, zp31_0, zp31_5, zp31_6, zp31_9, zo46, zp46_0, zp46_1, zp46_2, zo79, zp79_0, zo83, zp83_0, zp83_1, zp83_2, zo87, zp87_0, zp87_1, zo121, zp121_0, zp121_1, zp121_2, zp121_4, zp121_5, zp121_6, zp121_7, zp121_8, zp121_16, zp121_17, zp121_18, zp121_21, zp121_23, zp121_24, zp121_25, zp121_26, zp121_27, zp121_28, zp121_29, zp121_30, zp121_31, zp121_32, zp121_33, zp121_34, zp79_2, zx2, zx13, zx14, zx15, zx17, zx28, zx29, zx30, zx32, zx43, zx44, zx45, zx47, zx78, zx80, zx84, zx85, zx86, zx88, zx89, zx90, zx99, zx120, zx122, zx123, zx124, zx125, zx126, zx127, zx128, zx129, zx130, zx131, zx132, zx133, zx134, zx135, zx136, zx137, zx138, zx139, zx140, zx141, zx142, zx143, zx144, zx145, zg2, zg17, zg32, zgo3, zgo18, zgo33, zl47, zlo, zlp, zlx, zs90, zso, zsp, zsx, zt99, zto, ztp1, ztp2, ztgo, ztso, ztsp, ztsx, zc0, zi0, zc1, zi1, zc2, zi2, zc3, zi3, zc4, zi4, zc5, zi5, tm_5]
  exact this
theorem CA_name {t K n : Nat} {b : Nat → Nat} {M X : Mem} {s : PS} (ht : t < 15) (hK : K < 3) (hB : TpC M b n) (hPI : PI b n s) (h1 : s.1.1 = 1) (h : CA M t K s true X) : ∃ X', fxX8_name (some 79) (hp (48 + 2 * t) X) = some ((), hp (48 + 2 * t) X') ∧ (if s.1.2.2 - s.1.2.1 = 1 ∧ 0 ≤ nmS K (b s.1.2.1) then CA M t K (nx b n s.1, (10000 + nmS K (b s.1.2.1)) :: s.2.1, s.2.2 + 1) true X' else CA M t K s false X') := by
  have hn := hB.1
  have hT := hPI.1
  have h4 : s.1.1 ≠ 4 := by omega
  obtain ⟨N, len, hX, hq, hk, h7⟩ := CA_ok h h4
  have hlt := (hT.2.2.2.1 (by omega))
  have hbyte := hT.2.2.2.2.2.2.1 h1 s.1.2.1 (Nat.le_refl _) hlt.2
  have hen := hT.2.1
  obtain ⟨X', r1, r2⟩ := CA_ref (lp := 48 + 2 * t) h4 h
  have hX5 : X 79 5 = nI s.1.2.1 := by rw [hX, tm_5]
  have hX6 : X 79 6 = nI s.1.2.2 := by rw [hX, tm_6]
  have hXk : X (48 + 2 * t) 0 = nI K := by rw [hX, tm_o (by omega)]; exact hk
  have hXb : X 80 s.1.2.1 = nI (b s.1.2.1) := by rw [hX, tm_80, h7 80 (by omega) (by omega)]; exact (hB.2.2 _ hlt.1).1
  have hsub : (nI s.1.2.2 - nI s.1.2.1 = (1 : Int32)) = (s.1.2.2 - s.1.2.1 = 1) := by
    rw [pk_sub (by omega)]; exact propext (nI_eq (b := 1) (by omega) (by decide))
  by_cases hl : s.1.2.2 - s.1.2.1 = 1
  · have hnm : ∀ hh, fxX8_names (nI K) hh = some (5 + K, hh) := by
      intro hh
      rcases (show K = 0 ∨ K = 1 ∨ K = 2 by omega) with rfl | rfl | rfl <;> rfl
    have hks : am_ks (5 + K) = true := by
      rcases (show K = 0 ∨ K = 1 ∨ K = 2 by omega) with rfl | rfl | rfl <;> rfl
    have hio := q_indexOf (K := K) (v := b s.1.2.1) hK hbyte.1 hbyte.2 (hp (48 + 2 * t) X)
    have head : fxX8_name (some 79) (hp (48 + 2 * t) X) = fxX8_name_b40 (some 79) (nmS K (b s.1.2.1)) (hp (48 + 2 * t) X) := by
      simp (disch := omega) only [fxX8_name, am_gd_t, am_lt_e, am_bd_s, bi_0, bi_bz, bz0, bz1, nz2, nz10, nz100, hp_gi, hp_si, ↓reduceIte, if_true, if_false, Bool.true_eq_false, Bool.false_eq_true, eq_self, reduceCtorEq, zo0, zp0_0, zp0_1, zp0_2, zp0_4, zp0_5, zp0_6, zp0_7, zp0_8, zp0_9, zp0_10, zo1, zp1_0, zp1_5, zp1_6, zp1_9, zo16, zp16_0, zp16_5, zp16_6, zp16_9, zo31, zp31_0, zp31_5, zp31_6, zp31_9, zo46, zp46_0, zp46_1, zp46_2, zo79, zp79_0, zo83, zp83_0, zp83_1, zp83_2, zo87, zp87_0, zp87_1, zo121, zp121_0, zp121_1, zp121_2, zp121_4, zp121_5, zp121_6, zp121_7, zp121_8, zp121_16, zp121_17, zp121_18, zp121_21, zp121_23, zp121_24, zp121_25, zp121_26, zp121_27, zp121_28, zp121_29, zp121_30, zp121_31, zp121_32, zp121_33, zp121_34, zp79_2, zx2, zx13, zx14, zx15, zx17, zx28, zx29, zx30, zx32, zx43, zx44, zx45, zx47, zx78, zx80, zx84, zx85, zx86, zx88, zx89, zx90, zx99, zx120, zx122, zx123, zx124, zx125, zx126, zx127, zx128, zx129, zx130, zx131, zx132, zx133, zx134, zx135, zx136, zx137, zx138, zx139, zx140, zx141, zx142, zx143, zx144, zx145, zg2, zg17, zg32, zgo3, zgo18, zgo33, zl47, zlo, zlp, zlx, zs90, zso, zsp, zsx, zt99, zto, ztp1, ztp2, ztgo, ztso, ztsp, ztsx, zc0, zi0, zc1, zi1, zc2, zi2, zc3, zi3, zc4, zi4, zc5, zi5, zin, zcl, nI_1, Bool.and_self, Bool.true_and, Bool.and_true, hX5, hX6, hXk, hXb, hsub, hl, hnm, hks, hio]
    rcases nmS_c K (b s.1.2.1) with hm | ⟨i, hi, hm⟩
    · rw [hm] at head ⊢
      refine ⟨X', ?_, by rw [if_neg (fun x => absurd x.2 (by decide))]; exact r2⟩
      rw [head]
      simp only [fxX8_name_b40, am_gd_t, am_lt_e, am_bd_s, bi_0, bi_bz, bz0, bz1, nz2, nz10, nz100, hp_gi, hp_si, ↓reduceIte, if_true, if_false, Bool.true_eq_false, Bool.false_eq_true, eq_self, reduceCtorEq, zo0, zp0_0, zp0_1, zp0_2, zp0_4, zp0_5, zp0_6, zp0_7, zp0_8, zp0_9, zp0_10, zo1, zp1_0, zp1_5, zp1_6, zp1_9, zo16, zp16_0, zp16_5, zp16_6, zp16_9, zo31, zp31_0, zp31_5, zp31_6, zp31_9, zo46, zp46_0, zp46_1, zp46_2, zo79, zp79_0, zo83, zp83_0, zp83_1, zp83_2, zo87, zp87_0, zp87_1, zo121, zp121_0, zp121_1, zp121_2, zp121_4, zp121_5, zp121_6, zp121_7, zp121_8, zp121_16, zp121_17, zp121_18, zp121_21, zp121_23, zp121_24, zp121_25, zp121_26, zp121_27, zp121_28, zp121_29, zp121_30, zp121_31, zp121_32, zp121_33, zp121_34, zp79_2, zx2, zx13, zx14, zx15, zx17, zx28, zx29, zx30, zx32, zx43, zx44, zx45, zx47, zx78, zx80, zx84, zx85, zx86, zx88, zx89, zx90, zx99, zx120, zx122, zx123, zx124, zx125, zx126, zx127, zx128, zx129, zx130, zx131, zx132, zx133, zx134, zx135, zx136, zx137, zx138, zx139, zx140, zx141, zx142, zx143, zx144, zx145, zg2, zg17, zg32, zgo3, zgo18, zgo33, zl47, zlo, zlp, zlx, zs90, zso, zsp, zsx, zt99, zto, ztp1, ztp2, ztgo, ztso, ztsp, ztsx, zc0, zi0, zc1, zi1, zc2, zi2, zc3, zi3, zc4, zi4, zc5, zi5, m1ge, r1]
    · have hi3 : i < 3 := by split at hi <;> omega
      rw [hm] at head ⊢
      have h0 : (0 : Int32) ≤ nI i := nI_pos' (by omega)
      obtain ⟨X1, p1, p2⟩ := CA_oper (lp := 48 + 2 * t) (x := 10000 + nI i) (v := -1 - nI i) ht (Or.inr (Or.inl ⟨i, hi3, rfl, rfl⟩)) (by have := hPI.2; omega) h4 h
      obtain ⟨X2, q1, q2⟩ := CA_next (lp := 48 + 2 * t) (s := (s.1, (10000 + nI i) :: s.2.1, s.2.2 + 1)) ht hB hT h4 p2
      refine ⟨X2, ?_, by rw [if_pos ⟨hl, h0⟩]; exact q2⟩
      rw [head]
      have hlo : ∀ Z : Mem, am_ob (hp (48 + 2 * t) Z) (some (48 + 2 * t)) 3 = true := fun Z => zlo ht
      simp only [fxX8_name_b40, am_gd_t, am_lt_e, am_bd_s, bi_0, bi_bz, bz0, bz1, nz2, nz10, nz100, hp_gi, hp_si, ↓reduceIte, if_true, if_false, Bool.true_eq_false, Bool.false_eq_true, eq_self, reduceCtorEq, zo0, zp0_0, zp0_1, zp0_2, zp0_4, zp0_5, zp0_6, zp0_7, zp0_8, zp0_9, zp0_10, zo1, zp1_0, zp1_5, zp1_6, zp1_9, zo16, zp16_0, zp16_5, zp16_6, zp16_9, zo31, zp31_0, zp31_5, zp31_6, zp31_9, zo46, zp46_0, zp46_1, zp46_2, zo79, zp79_0, zo83, zp83_0, zp83_1, zp83_2, zo87, zp87_0, zp87_1, zo121, zp121_0, zp121_1, zp121_2, zp121_4, zp121_5, zp121_6, zp121_7, zp121_8, zp121_16, zp121_17, zp121_18, zp121_21, zp121_23, zp121_24, zp121_25, zp121_26, zp121_27, zp121_28, zp121_29, zp121_30, zp121_31, zp121_32, zp121_33, zp121_34, zp79_2, zx2, zx13, zx14, zx15, zx17, zx28, zx29, zx30, zx32, zx43, zx44, zx45, zx47, zx78, zx80, zx84, zx85, zx86, zx88, zx89, zx90, zx99, zx120, zx122, zx123, zx124, zx125, zx126, zx127, zx128, zx129, zx130, zx131, zx132, zx133, zx134, zx135, zx136, zx137, zx138, zx139, zx140, zx141, zx142, zx143, zx144, zx145, zg2, zg17, zg32, zgo3, zgo18, zgo33, zl47, zlo, zlp, zlx, zs90, zso, zsp, zsx, zt99, zto, ztp1, ztp2, ztgo, ztso, ztsp, ztsx, zc0, zi0, zc1, zi1, zc2, zi2, zc3, zi3, zc4, zi4, zc5, zi5, eq_true h0, hlo, p1, q1]
  · refine ⟨X', ?_, by rw [if_neg (fun x => hl x.1)]; exact r2⟩
    simp only [fxX8_name, fxX8_name_b40, am_gd_t, am_lt_e, am_bd_s, bi_0, bi_bz, bz0, bz1, nz2, nz10, nz100, hp_gi, hp_si, ↓reduceIte, if_true, if_false, Bool.true_eq_false, Bool.false_eq_true, eq_self, reduceCtorEq, zo0, zp0_0, zp0_1, zp0_2, zp0_4, zp0_5, zp0_6, zp0_7, zp0_8, zp0_9, zp0_10, zo1, zp1_0, zp1_5, zp1_6, zp1_9, zo16, zp16_0, zp16_5, zp16_6, zp16_9, zo31, zp31_0, zp31_5, zp31_6, zp31_9, zo46, zp46_0, zp46_1, zp46_2, zo79, zp79_0, zo83, zp83_0, zp83_1, zp83_2, zo87, zp87_0, zp87_1, zo121, zp121_0, zp121_1, zp121_2, zp121_4, zp121_5, zp121_6, zp121_7, zp121_8, zp121_16, zp121_17, zp121_18, zp121_21, zp121_23, zp121_24, zp121_25, zp121_26, zp121_27, zp121_28, zp121_29, zp121_30, zp121_31, zp121_32, zp121_33, zp121_34, zp79_2, zx2, zx13, zx14, zx15, zx17, zx28, zx29, zx30, zx32, zx43, zx44, zx45, zx47, zx78, zx80, zx84, zx85, zx86, zx88, zx89, zx90, zx99, zx120, zx122, zx123, zx124, zx125, zx126, zx127, zx128, zx129, zx130, zx131, zx132, zx133, zx134, zx135, zx136, zx137, zx138, zx139, zx140, zx141, zx142, zx143, zx144, zx145, zg2, zg17, zg32, zgo3, zgo18, zgo33, zl47, zlo, zlp, zlx, zs90, zso, zsp, zsx, zt99, zto, ztp1, ztp2, ztgo, ztso, ztsp, ztsx, zc0, zi0, zc1, zi1, zc2, zi2, zc3, zi3, zc4, zi4, zc5, zi5, hX5, hX6, hsub, hl, m1ge, r1]
def ndP (op no : Nat) : Nat := 1 + 7 * (8 - op) + (8 - no)
theorem pc_c {t K n op no f : Nat} {b : Nat → Nat} {M X : Mem} {s : PS} (ht : t < 15) (hK : K < 3) (hB : TpC M b n) (hop : op ≤ 8) (hno : no ≤ 8) (iL : op < 8 → ∀ s X, PI b n s → CA M t K s true X → ∃ X', (fxX8_lp f).1 (some 79) (nI 0) (nI (op + 1)) (nI no) (hp (48 + 2 * t) X) = some ((), hp (48 + 2 * t) X') ∧ CA M t K ((dlp b n K f).1 0 (op + 1) no s).1 ((dlp b n K f).1 0 (op + 1) no s).2 X') (iP : no < 8 → ∀ s X, PI b n s → CA M t K s true X → ∃ X', (fxX8_lp f).2 (some 79) (nI op) (nI (no + 1)) (hp (48 + 2 * t) X) = some ((), hp (48 + 2 * t) X') ∧ CA M t K ((dlp b n K f).2 op (no + 1) s).1 ((dlp b n K f).2 op (no + 1) s).2 X') (hPI : PI b n s) (hCA : CA M t K s true X) : ∃ X', fxX8_pieceF (fxX8_lp f).1 (fxX8_lp f).2 (some 79) (nI op) (nI no) (hp (48 + 2 * t) X) = some ((), hp (48 + 2 * t) X') ∧ CA M t K (dPc b n K (dlp b n K f).1 (dlp b n K f).2 op no s).1 (dPc b n K (dlp b n K f).1 (dlp b n K f).2 op no s).2 X' := by
  have hn := hB.1
  have hT := hPI.1
  have hlo : ∀ Z : Mem, am_ob (hp (48 + 2 * t) Z) (some (48 + 2 * t)) 3 = true := fun Z => zlo ht
  have hst : s.1.2.1 ≤ n := by have := hT.1; have := hT.2.1; omega
  by_cases h4 : s.1.1 = 4
  · obtain ⟨N, g, q, rfl, h1, hg, h7, hCf⟩ := CA_f hCA (Or.inr h4)
    have hne : ¬ g = -1 := by rw [hg]; exact nm1 (by omega)
    have hd : dPc b n K (dlp b n K f).1 (dlp b n K f).2 op no s = (s, false) := by
      unfold dPc
      rw [if_neg (by omega), if_neg (by omega), if_neg (by omega), if_neg (by omega)]
    rw [hd]
    refine ⟨_, ?_, hCf⟩
    simp only [fxX8_pieceF, am_gd_t, am_lt_e, am_bd_s, bi_0, bi_bz, bz0, bz1, nz2, nz10, nz100, hp_gi, hp_si, ↓reduceIte, if_true, if_false, Bool.true_eq_false, Bool.false_eq_true, eq_self, reduceCtorEq, zo0, zp0_0, zp0_1, zp0_2, zp0_4, zp0_5, zp0_6, zp0_7, zp0_8, zp0_9, zp0_10, zo1, zp1_0, zp1_5, zp1_6, zp1_9, zo16, zp16_0, zp16_5, zp16_6, zp16_9, zo31, zp31_0, zp31_5, zp31_6, zp31_9, zo46, zp46_0, zp46_1, zp46_2, zo79, zp79_0, zo83, zp83_0, zp83_1, zp83_2, zo87, zp87_0, zp87_1, zo121, zp121_0, zp121_1, zp121_2, zp121_4, zp121_5, zp121_6, zp121_7, zp121_8, zp121_16, zp121_17, zp121_18, zp121_21, zp121_23, zp121_24, zp121_25, zp121_26, zp121_27, zp121_28, zp121_29, zp121_30, zp121_31, zp121_32, zp121_33, zp121_34, zp79_2, zx2, zx13, zx14, zx15, zx17, zx28, zx29, zx30, zx32, zx43, zx44, zx45, zx47, zx78, zx80, zx84, zx85, zx86, zx88, zx89, zx90, zx99, zx120, zx122, zx123, zx124, zx125, zx126, zx127, zx128, zx129, zx130, zx131, zx132, zx133, zx134, zx135, zx136, zx137, zx138, zx139, zx140, zx141, zx142, zx143, zx144, zx145, zg2, zg17, zg32, zgo3, zgo18, zgo33, zl47, zlo, zlp, zlx, zs90, zso, zsp, zsx, zt99, zto, ztp1, ztp2, ztgo, ztso, ztsp, ztsx, zc0, zi0, zc1, zi1, zc2, zi2, zc3, zi3, zc4, zi4, zc5, zi5, tm_3, hne]
  obtain ⟨N, len, hX, hq, hk, h7⟩ := CA_ok hCA h4
  have hX3 : X 79 3 = -1 := by rw [hX, tm_3]
  have hX4 : X 79 4 = nI s.1.1 := by rw [hX, tm_4]
  by_cases h2 : s.1.1 = 2
  · have hlt := (hT.2.2.2.1 (by omega))
    have hdg := hT.2.2.2.2.2.2.2.1 h2
    have hnum : fxX8_number (some 79) (hp (48 + 2 * t) X) = some (nI (dv b s.1.2.1 (s.1.2.2 - s.1.2.1)), hp (48 + 2 * t) X) := by
      rw [hX]; exact q_number (TpC_c ht hB h7) (by omega) hT.2.1 hdg.2
    have hdv : dv b s.1.2.1 (s.1.2.2 - s.1.2.1) ≤ 9999 := dv_4 hdg.1 (fun j j1 j2 => (hdg.2 j j1 (by omega)).2)
    obtain ⟨X1, p1, p2⟩ := CA_oper (lp := 48 + 2 * t) (x := nI (dv b s.1.2.1 (s.1.2.2 - s.1.2.1))) (v := nI (dv b s.1.2.1 (s.1.2.2 - s.1.2.1))) ht (Or.inl ⟨_, hdv, rfl, rfl⟩) (by have := hPI.2; omega) h4 hCA
    obtain ⟨X2, q1, q2⟩ := CA_next (lp := 48 + 2 * t) (s := (s.1, nI (dv b s.1.2.1 (s.1.2.2 - s.1.2.1)) :: s.2.1, s.2.2 + 1)) ht hB hT h4 p2
    have hd : dPc b n K (dlp b n K f).1 (dlp b n K f).2 op no s = ((nx b n s.1, nI (dv b s.1.2.1 (s.1.2.2 - s.1.2.1)) :: s.2.1, s.2.2 + 1), true) := by
      unfold dPc
      rw [if_pos h2]
    rw [hd]
    refine ⟨X2, ?_, q2⟩
    have e2 : (X 79 4 = (2 : Int32)) = True := by rw [hX4, h2]; decide
    simp only [fxX8_pieceF, am_gd_t, am_lt_e, am_bd_s, bi_0, bi_bz, bz0, bz1, nz2, nz10, nz100, hp_gi, hp_si, ↓reduceIte, if_true, if_false, Bool.true_eq_false, Bool.false_eq_true, eq_self, reduceCtorEq, zo0, zp0_0, zp0_1, zp0_2, zp0_4, zp0_5, zp0_6, zp0_7, zp0_8, zp0_9, zp0_10, zo1, zp1_0, zp1_5, zp1_6, zp1_9, zo16, zp16_0, zp16_5, zp16_6, zp16_9, zo31, zp31_0, zp31_5, zp31_6, zp31_9, zo46, zp46_0, zp46_1, zp46_2, zo79, zp79_0, zo83, zp83_0, zp83_1, zp83_2, zo87, zp87_0, zp87_1, zo121, zp121_0, zp121_1, zp121_2, zp121_4, zp121_5, zp121_6, zp121_7, zp121_8, zp121_16, zp121_17, zp121_18, zp121_21, zp121_23, zp121_24, zp121_25, zp121_26, zp121_27, zp121_28, zp121_29, zp121_30, zp121_31, zp121_32, zp121_33, zp121_34, zp79_2, zx2, zx13, zx14, zx15, zx17, zx28, zx29, zx30, zx32, zx43, zx44, zx45, zx47, zx78, zx80, zx84, zx85, zx86, zx88, zx89, zx90, zx99, zx120, zx122, zx123, zx124, zx125, zx126, zx127, zx128, zx129, zx130, zx131, zx132, zx133, zx134, zx135, zx136, zx137, zx138, zx139, zx140, zx141, zx142, zx143, zx144, zx145, zg2, zg17, zg32, zgo3, zgo18, zgo33, zl47, zlo, zlp, zlx, zs90, zso, zsp, zsx, zt99, zto, ztp1, ztp2, ztgo, ztso, ztsp, ztsx, zc0, zi0, zc1, zi1, zc2, zi2, zc3, zi3, zc4, zi4, zc5, zi5, hX3, e2, hnum, hlo, p1, q1]
  have n2 : (X 79 4 = (2 : Int32)) = False := by rw [hX4]; exact eq_false (fun q => h2 ((nI_eq (b := 2) (by omega) (by decide)).mp q))
  by_cases h1 : s.1.1 = 1
  · obtain ⟨X1, p1, p2⟩ := CA_name ht hK hB hPI h1 hCA
    have e1 : (X 79 4 = (1 : Int32)) = True := by rw [hX4, h1]; decide
    refine ⟨X1, ?_, ?_⟩
    · simp only [fxX8_pieceF, am_gd_t, am_lt_e, am_bd_s, bi_0, bi_bz, bz0, bz1, nz2, nz10, nz100, hp_gi, hp_si, ↓reduceIte, if_true, if_false, Bool.true_eq_false, Bool.false_eq_true, eq_self, reduceCtorEq, zo0, zp0_0, zp0_1, zp0_2, zp0_4, zp0_5, zp0_6, zp0_7, zp0_8, zp0_9, zp0_10, zo1, zp1_0, zp1_5, zp1_6, zp1_9, zo16, zp16_0, zp16_5, zp16_6, zp16_9, zo31, zp31_0, zp31_5, zp31_6, zp31_9, zo46, zp46_0, zp46_1, zp46_2, zo79, zp79_0, zo83, zp83_0, zp83_1, zp83_2, zo87, zp87_0, zp87_1, zo121, zp121_0, zp121_1, zp121_2, zp121_4, zp121_5, zp121_6, zp121_7, zp121_8, zp121_16, zp121_17, zp121_18, zp121_21, zp121_23, zp121_24, zp121_25, zp121_26, zp121_27, zp121_28, zp121_29, zp121_30, zp121_31, zp121_32, zp121_33, zp121_34, zp79_2, zx2, zx13, zx14, zx15, zx17, zx28, zx29, zx30, zx32, zx43, zx44, zx45, zx47, zx78, zx80, zx84, zx85, zx86, zx88, zx89, zx90, zx99, zx120, zx122, zx123, zx124, zx125, zx126, zx127, zx128, zx129, zx130, zx131, zx132, zx133, zx134, zx135, zx136, zx137, zx138, zx139, zx140, zx141, zx142, zx143, zx144, zx145, zg2, zg17, zg32, zgo3, zgo18, zgo33, zl47, zlo, zlp, zlx, zs90, zso, zsp, zsx, zt99, zto, ztp1, ztp2, ztgo, ztso, ztsp, ztsx, zc0, zi0, zc1, zi1, zc2, zi2, zc3, zi3, zc4, zi4, zc5, zi5, hX3, n2, e1, p1]
    · unfold dPc
      rw [if_neg h2, if_pos h1]
      split
      · next q => rw [if_pos q] at p2; exact p2
      · next q => rw [if_neg q] at p2; exact p2
  have n1 : (X 79 4 = (1 : Int32)) = False := by rw [hX4]; exact eq_false (fun q => h1 ((nI_eq (b := 1) (by omega) (by decide)).mp q))
  have hsg := CA_sign (lp := 48 + 2 * t) ht hB hT h4 hCA
  obtain ⟨Xr, r1, r2⟩ := CA_ref (lp := 48 + 2 * t) h4 hCA
  by_cases h3 : s.1.1 = 3
  · have hlt := (hT.2.2.2.1 (by omega))
    have hb255 := (hB.2.2 _ hlt.1).2
    rw [if_pos h3] at hsg
    obtain ⟨g1, g2⟩ := nx_go hT (by omega)
    have hPn : PI b n (nx b n s.1, s.2) := ⟨g1, by have := hPI.2; dsimp only; omega⟩
    by_cases c33 : b s.1.2.1 = 33 ∧ no < 8
    · obtain ⟨X1, p1, p2⟩ := CA_next (lp := 48 + 2 * t) ht hB hT h4 hCA
      obtain ⟨X2, u1, u2⟩ := iP c33.2 (nx b n s.1, s.2) X1 hPn p2
      obtain ⟨q1, q2, q3⟩ := (dlp_g (b := b) (n := n) (K := K) f).2 op (no + 1) (nx b n s.1, s.2) g1
      have hd : dPc b n K (dlp b n K f).1 (dlp b n K f).2 op no s = (if ((dlp b n K f).2 op (no + 1) (nx b n s.1, s.2)).2 = true then ((((dlp b n K f).2 op (no + 1) (nx b n s.1, s.2)).1.1, -10 :: ((dlp b n K f).2 op (no + 1) (nx b n s.1, s.2)).1.2.1, ((dlp b n K f).2 op (no + 1) (nx b n s.1, s.2)).1.2.2), true) else (dlp b n K f).2 op (no + 1) (nx b n s.1, s.2)) := by
        unfold dPc
        rw [if_neg h2, if_neg h1, if_pos ⟨h3, c33⟩]
      rw [hd]
      generalize (dlp b n K f).2 op (no + 1) (nx b n s.1, s.2) = rr at *
      dsimp only at q2 q3
      have h8 : ((8 : Int32) ≤ nI no) = False := zle (n := 8) c33.2 (by decide)
      have hstr : rr.1.1.2.1 ≤ n := by have := q1.1; have := q1.2.1; omega
      cases hok : rr.2 with
      | true =>
        have q3 := q3 hok
        rw [hok] at u2
        obtain ⟨X3, v1, v2⟩ := CA_push (lp := 48 + 2 * t) (x := -10) (v := -33) ht (Or.inr (Or.inr (by decide))) (by have := hPI.2; omega) u2
        rw [if_pos rfl]
        refine ⟨X3, ?_, v2⟩
        simp only [fxX8_pieceF, am_gd_t, am_lt_e, am_bd_s, bi_0, bi_bz, bz0, bz1, nz2, nz10, nz100, hp_gi, hp_si, ↓reduceIte, if_true, if_false, Bool.true_eq_false, Bool.false_eq_true, eq_self, reduceCtorEq, zo0, zp0_0, zp0_1, zp0_2, zp0_4, zp0_5, zp0_6, zp0_7, zp0_8, zp0_9, zp0_10, zo1, zp1_0, zp1_5, zp1_6, zp1_9, zo16, zp16_0, zp16_5, zp16_6, zp16_9, zo31, zp31_0, zp31_5, zp31_6, zp31_9, zo46, zp46_0, zp46_1, zp46_2, zo79, zp79_0, zo83, zp83_0, zp83_1, zp83_2, zo87, zp87_0, zp87_1, zo121, zp121_0, zp121_1, zp121_2, zp121_4, zp121_5, zp121_6, zp121_7, zp121_8, zp121_16, zp121_17, zp121_18, zp121_21, zp121_23, zp121_24, zp121_25, zp121_26, zp121_27, zp121_28, zp121_29, zp121_30, zp121_31, zp121_32, zp121_33, zp121_34, zp79_2, zx2, zx13, zx14, zx15, zx17, zx28, zx29, zx30, zx32, zx43, zx44, zx45, zx47, zx78, zx80, zx84, zx85, zx86, zx88, zx89, zx90, zx99, zx120, zx122, zx123, zx124, zx125, zx126, zx127, zx128, zx129, zx130, zx131, zx132, zx133, zx134, zx135, zx136, zx137, zx138, zx139, zx140, zx141, zx142, zx143, zx144, zx145, zg2, zg17, zg32, zgo3, zgo18, zgo33, zl47, zlo, zlp, zlx, zs90, zso, zsp, zsx, zt99, zto, ztp1, ztp2, ztgo, ztso, ztsp, ztsx, zc0, zi0, zc1, zi1, zc2, zi2, zc3, zi3, zc4, zi4, zc5, zi5, hX3, n2, n1, hsg, c33.1, show (nI 33 = (33 : Int32)) = True from by decide, h8, p1, nI_1, u1, hlo, v1]
      | false =>
        rw [hok] at u2
        obtain ⟨X3, v1, v2⟩ := CA_push_f (lp := 48 + 2 * t) (v := -33) ht u2
        rw [if_neg (by decide)]
        refine ⟨X3, ?_, by rw [hok]; exact v2⟩
        simp only [fxX8_pieceF, am_gd_t, am_lt_e, am_bd_s, bi_0, bi_bz, bz0, bz1, nz2, nz10, nz100, hp_gi, hp_si, ↓reduceIte, if_true, if_false, Bool.true_eq_false, Bool.false_eq_true, eq_self, reduceCtorEq, zo0, zp0_0, zp0_1, zp0_2, zp0_4, zp0_5, zp0_6, zp0_7, zp0_8, zp0_9, zp0_10, zo1, zp1_0, zp1_5, zp1_6, zp1_9, zo16, zp16_0, zp16_5, zp16_6, zp16_9, zo31, zp31_0, zp31_5, zp31_6, zp31_9, zo46, zp46_0, zp46_1, zp46_2, zo79, zp79_0, zo83, zp83_0, zp83_1, zp83_2, zo87, zp87_0, zp87_1, zo121, zp121_0, zp121_1, zp121_2, zp121_4, zp121_5, zp121_6, zp121_7, zp121_8, zp121_16, zp121_17, zp121_18, zp121_21, zp121_23, zp121_24, zp121_25, zp121_26, zp121_27, zp121_28, zp121_29, zp121_30, zp121_31, zp121_32, zp121_33, zp121_34, zp79_2, zx2, zx13, zx14, zx15, zx17, zx28, zx29, zx30, zx32, zx43, zx44, zx45, zx47, zx78, zx80, zx84, zx85, zx86, zx88, zx89, zx90, zx99, zx120, zx122, zx123, zx124, zx125, zx126, zx127, zx128, zx129, zx130, zx131, zx132, zx133, zx134, zx135, zx136, zx137, zx138, zx139, zx140, zx141, zx142, zx143, zx144, zx145, zg2, zg17, zg32, zgo3, zgo18, zgo33, zl47, zlo, zlp, zlx, zs90, zso, zsp, zsx, zt99, zto, ztp1, ztp2, ztgo, ztso, ztsp, ztsx, zc0, zi0, zc1, zi1, zc2, zi2, zc3, zi3, zc4, zi4, zc5, zi5, hX3, n2, n1, hsg, c33.1, show (nI 33 = (33 : Int32)) = True from by decide, h8, p1, nI_1, u1, hlo, v1]
    -- to the bracket
    have to89 : fxX8_pieceF (fxX8_lp f).1 (fxX8_lp f).2 (some 79) (nI op) (nI no) (hp (48 + 2 * t) X) = fxX8_pieceF_b89 (fxX8_lp f).1 (fxX8_lp f).2 (some 79) (nI op) (nI no) (hp (48 + 2 * t) X) := by
      by_cases h33 : b s.1.2.1 = 33
      · have h8 : ((8 : Int32) ≤ nI no) = True := zle' (n := 8) (by omega) (by omega)
        simp only [fxX8_pieceF, am_gd_t, am_lt_e, am_bd_s, bi_0, bi_bz, bz0, bz1, nz2, nz10, nz100, hp_gi, hp_si, ↓reduceIte, if_true, if_false, Bool.true_eq_false, Bool.false_eq_true, eq_self, reduceCtorEq, zo0, zp0_0, zp0_1, zp0_2, zp0_4, zp0_5, zp0_6, zp0_7, zp0_8, zp0_9, zp0_10, zo1, zp1_0, zp1_5, zp1_6, zp1_9, zo16, zp16_0, zp16_5, zp16_6, zp16_9, zo31, zp31_0, zp31_5, zp31_6, zp31_9, zo46, zp46_0, zp46_1, zp46_2, zo79, zp79_0, zo83, zp83_0, zp83_1, zp83_2, zo87, zp87_0, zp87_1, zo121, zp121_0, zp121_1, zp121_2, zp121_4, zp121_5, zp121_6, zp121_7, zp121_8, zp121_16, zp121_17, zp121_18, zp121_21, zp121_23, zp121_24, zp121_25, zp121_26, zp121_27, zp121_28, zp121_29, zp121_30, zp121_31, zp121_32, zp121_33, zp121_34, zp79_2, zx2, zx13, zx14, zx15, zx17, zx28, zx29, zx30, zx32, zx43, zx44, zx45, zx47, zx78, zx80, zx84, zx85, zx86, zx88, zx89, zx90, zx99, zx120, zx122, zx123, zx124, zx125, zx126, zx127, zx128, zx129, zx130, zx131, zx132, zx133, zx134, zx135, zx136, zx137, zx138, zx139, zx140, zx141, zx142, zx143, zx144, zx145, zg2, zg17, zg32, zgo3, zgo18, zgo33, zl47, zlo, zlp, zlx, zs90, zso, zsp, zsx, zt99, zto, ztp1, ztp2, ztgo, ztso, ztsp, ztsx, zc0, zi0, zc1, zi1, zc2, zi2, zc3, zi3, zc4, zi4, zc5, zi5, hX3, n2, n1, hsg, h33, show (nI 33 = (33 : Int32)) = True from by decide, h8]
      · have c : (nI (b s.1.2.1) = (33 : Int32)) = False := eq_false (fun q => h33 ((nI_eq (b := 33) (by omega) (by decide)).mp q))
        simp only [fxX8_pieceF, am_gd_t, am_lt_e, am_bd_s, bi_0, bi_bz, bz0, bz1, nz2, nz10, nz100, hp_gi, hp_si, ↓reduceIte, if_true, if_false, Bool.true_eq_false, Bool.false_eq_true, eq_self, reduceCtorEq, zo0, zp0_0, zp0_1, zp0_2, zp0_4, zp0_5, zp0_6, zp0_7, zp0_8, zp0_9, zp0_10, zo1, zp1_0, zp1_5, zp1_6, zp1_9, zo16, zp16_0, zp16_5, zp16_6, zp16_9, zo31, zp31_0, zp31_5, zp31_6, zp31_9, zo46, zp46_0, zp46_1, zp46_2, zo79, zp79_0, zo83, zp83_0, zp83_1, zp83_2, zo87, zp87_0, zp87_1, zo121, zp121_0, zp121_1, zp121_2, zp121_4, zp121_5, zp121_6, zp121_7, zp121_8, zp121_16, zp121_17, zp121_18, zp121_21, zp121_23, zp121_24, zp121_25, zp121_26, zp121_27, zp121_28, zp121_29, zp121_30, zp121_31, zp121_32, zp121_33, zp121_34, zp79_2, zx2, zx13, zx14, zx15, zx17, zx28, zx29, zx30, zx32, zx43, zx44, zx45, zx47, zx78, zx80, zx84, zx85, zx86, zx88, zx89, zx90, zx99, zx120, zx122, zx123, zx124, zx125, zx126, zx127, zx128, zx129, zx130, zx131, zx132, zx133, zx134, zx135, zx136, zx137, zx138, zx139, zx140, zx141, zx142, zx143, zx144, zx145, zg2, zg17, zg32, zgo3, zgo18, zgo33, zl47, zlo, zlp, zlx, zs90, zso, zsp, zsx, zt99, zto, ztp1, ztp2, ztgo, ztso, ztsp, ztsx, zc0, zi0, zc1, zi1, zc2, zi2, zc3, zi3, zc4, zi4, zc5, zi5, hX3, n2, n1, hsg, c]
    rw [to89]
    by_cases c40 : b s.1.2.1 = 40 ∧ op < 8
    · obtain ⟨X1, p1, p2⟩ := CA_next (lp := 48 + 2 * t) ht hB hT h4 hCA
      obtain ⟨X2, u1, u2⟩ := iL c40.2 (nx b n s.1, s.2) X1 hPn p2
      obtain ⟨q1, q2, q3⟩ := (dlp_g (b := b) (n := n) (K := K) f).1 0 (op + 1) no (nx b n s.1, s.2) g1
      have hd : dPc b n K (dlp b n K f).1 (dlp b n K f).2 op no s = (if ((dlp b n K f).1 0 (op + 1) no (nx b n s.1, s.2)).2 = true then (if ((dlp b n K f).1 0 (op + 1) no (nx b n s.1, s.2)).1.1.1 = 3 ∧ b ((dlp b n K f).1 0 (op + 1) no (nx b n s.1, s.2)).1.1.2.1 = 41 then ((nx b n ((dlp b n K f).1 0 (op + 1) no (nx b n s.1, s.2)).1.1, ((dlp b n K f).1 0 (op + 1) no (nx b n s.1, s.2)).1.2), true) else (((dlp b n K f).1 0 (op + 1) no (nx b n s.1, s.2)).1, false)) else (dlp b n K f).1 0 (op + 1) no (nx b n s.1, s.2)) := by
        unfold dPc
        rw [if_neg h2, if_neg h1, if_neg (fun x => c33 x.2), if_pos ⟨h3, c40⟩]
      rw [hd]
      generalize (dlp b n K f).1 0 (op + 1) no (nx b n s.1, s.2) = rr at *
      have h8 : ((8 : Int32) ≤ nI op) = False := zle (n := 8) c40.2 (by decide)
      have u1 : (fxX8_lp f).1 (some 79) (0 : Int32) (nI (op + 1)) (nI no) (hp (48 + 2 * t) X1) = some ((), hp (48 + 2 * t) X2) := u1
      cases hok : rr.2 with
      | true =>
        rw [hok] at u2
        obtain ⟨X3, v1, v2⟩ := CA_close (lp := 48 + 2 * t) ht hB q1 u2
        rw [if_pos rfl]
        refine ⟨X3, ?_, ?_⟩
        · simp only [fxX8_pieceF_b89, am_gd_t, am_lt_e, am_bd_s, bi_0, bi_bz, bz0, bz1, nz2, nz10, nz100, hp_gi, hp_si, ↓reduceIte, if_true, if_false, Bool.true_eq_false, Bool.false_eq_true, eq_self, reduceCtorEq, zo0, zp0_0, zp0_1, zp0_2, zp0_4, zp0_5, zp0_6, zp0_7, zp0_8, zp0_9, zp0_10, zo1, zp1_0, zp1_5, zp1_6, zp1_9, zo16, zp16_0, zp16_5, zp16_6, zp16_9, zo31, zp31_0, zp31_5, zp31_6, zp31_9, zo46, zp46_0, zp46_1, zp46_2, zo79, zp79_0, zo83, zp83_0, zp83_1, zp83_2, zo87, zp87_0, zp87_1, zo121, zp121_0, zp121_1, zp121_2, zp121_4, zp121_5, zp121_6, zp121_7, zp121_8, zp121_16, zp121_17, zp121_18, zp121_21, zp121_23, zp121_24, zp121_25, zp121_26, zp121_27, zp121_28, zp121_29, zp121_30, zp121_31, zp121_32, zp121_33, zp121_34, zp79_2, zx2, zx13, zx14, zx15, zx17, zx28, zx29, zx30, zx32, zx43, zx44, zx45, zx47, zx78, zx80, zx84, zx85, zx86, zx88, zx89, zx90, zx99, zx120, zx122, zx123, zx124, zx125, zx126, zx127, zx128, zx129, zx130, zx131, zx132, zx133, zx134, zx135, zx136, zx137, zx138, zx139, zx140, zx141, zx142, zx143, zx144, zx145, zg2, zg17, zg32, zgo3, zgo18, zgo33, zl47, zlo, zlp, zlx, zs90, zso, zsp, zsx, zt99, zto, ztp1, ztp2, ztgo, ztso, ztsp, ztsx, zc0, zi0, zc1, zi1, zc2, zi2, zc3, zi3, zc4, zi4, zc5, zi5, hsg, c40.1, show (nI 40 = (40 : Int32)) = True from by decide, h8, p1, nI_1, u1, v1]
        · split
          · next q => rw [if_pos q] at v2; exact v2
          · next q => rw [if_neg q] at v2; exact v2
      | false =>
        rw [hok] at u2
        have v1 := CA_close_f (lp := 48 + 2 * t) ht hB q1 u2
        rw [if_neg (by decide)]
        refine ⟨X2, ?_, by rw [hok]; exact u2⟩
        simp only [fxX8_pieceF_b89, am_gd_t, am_lt_e, am_bd_s, bi_0, bi_bz, bz0, bz1, nz2, nz10, nz100, hp_gi, hp_si, ↓reduceIte, if_true, if_false, Bool.true_eq_false, Bool.false_eq_true, eq_self, reduceCtorEq, zo0, zp0_0, zp0_1, zp0_2, zp0_4, zp0_5, zp0_6, zp0_7, zp0_8, zp0_9, zp0_10, zo1, zp1_0, zp1_5, zp1_6, zp1_9, zo16, zp16_0, zp16_5, zp16_6, zp16_9, zo31, zp31_0, zp31_5, zp31_6, zp31_9, zo46, zp46_0, zp46_1, zp46_2, zo79, zp79_0, zo83, zp83_0, zp83_1, zp83_2, zo87, zp87_0, zp87_1, zo121, zp121_0, zp121_1, zp121_2, zp121_4, zp121_5, zp121_6, zp121_7, zp121_8, zp121_16, zp121_17, zp121_18, zp121_21, zp121_23, zp121_24, zp121_25, zp121_26, zp121_27, zp121_28, zp121_29, zp121_30, zp121_31, zp121_32, zp121_33, zp121_34, zp79_2, zx2, zx13, zx14, zx15, zx17, zx28, zx29, zx30, zx32, zx43, zx44, zx45, zx47, zx78, zx80, zx84, zx85, zx86, zx88, zx89, zx90, zx99, zx120, zx122, zx123, zx124, zx125, zx126, zx127, zx128, zx129, zx130, zx131, zx132, zx133, zx134, zx135, zx136, zx137, zx138, zx139, zx140, zx141, zx142, zx143, zx144, zx145, zg2, zg17, zg32, zgo3, zgo18, zgo33, zl47, zlo, zlp, zlx, zs90, zso, zsp, zsx, zt99, zto, ztp1, ztp2, ztgo, ztso, ztsp, ztsx, zc0, zi0, zc1, zi1, zc2, zi2, zc3, zi3, zc4, zi4, zc5, zi5, hsg, c40.1, show (nI 40 = (40 : Int32)) = True from by decide, h8, p1, nI_1, u1, v1]
    · have hd : dPc b n K (dlp b n K f).1 (dlp b n K f).2 op no s = (s, false) := by
        unfold dPc
        rw [if_neg h2, if_neg h1, if_neg (fun x => c33 x.2), if_neg (fun x => c40 x.2)]
      rw [hd]
      refine ⟨Xr, ?_, r2⟩
      by_cases h40 : b s.1.2.1 = 40
      · have h8 : ((8 : Int32) ≤ nI op) = True := zle' (n := 8) (by omega) (by omega)
        simp only [fxX8_pieceF_b89, fxX8_pieceF_b124, am_gd_t, am_lt_e, am_bd_s, bi_0, bi_bz, bz0, bz1, nz2, nz10, nz100, hp_gi, hp_si, ↓reduceIte, if_true, if_false, Bool.true_eq_false, Bool.false_eq_true, eq_self, reduceCtorEq, zo0, zp0_0, zp0_1, zp0_2, zp0_4, zp0_5, zp0_6, zp0_7, zp0_8, zp0_9, zp0_10, zo1, zp1_0, zp1_5, zp1_6, zp1_9, zo16, zp16_0, zp16_5, zp16_6, zp16_9, zo31, zp31_0, zp31_5, zp31_6, zp31_9, zo46, zp46_0, zp46_1, zp46_2, zo79, zp79_0, zo83, zp83_0, zp83_1, zp83_2, zo87, zp87_0, zp87_1, zo121, zp121_0, zp121_1, zp121_2, zp121_4, zp121_5, zp121_6, zp121_7, zp121_8, zp121_16, zp121_17, zp121_18, zp121_21, zp121_23, zp121_24, zp121_25, zp121_26, zp121_27, zp121_28, zp121_29, zp121_30, zp121_31, zp121_32, zp121_33, zp121_34, zp79_2, zx2, zx13, zx14, zx15, zx17, zx28, zx29, zx30, zx32, zx43, zx44, zx45, zx47, zx78, zx80, zx84, zx85, zx86, zx88, zx89, zx90, zx99, zx120, zx122, zx123, zx124, zx125, zx126, zx127, zx128, zx129, zx130, zx131, zx132, zx133, zx134, zx135, zx136, zx137, zx138, zx139, zx140, zx141, zx142, zx143, zx144, zx145, zg2, zg17, zg32, zgo3, zgo18, zgo33, zl47, zlo, zlp, zlx, zs90, zso, zsp, zsx, zt99, zto, ztp1, ztp2, ztgo, ztso, ztsp, ztsx, zc0, zi0, zc1, zi1, zc2, zi2, zc3, zi3, zc4, zi4, zc5, zi5, hsg, h40, show (nI 40 = (40 : Int32)) = True from by decide, h8, r1]
      · have c : (nI (b s.1.2.1) = (40 : Int32)) = False := eq_false (fun q => h40 ((nI_eq (b := 40) (by omega) (by decide)).mp q))
        simp only [fxX8_pieceF_b89, fxX8_pieceF_b124, am_gd_t, am_lt_e, am_bd_s, bi_0, bi_bz, bz0, bz1, nz2, nz10, nz100, hp_gi, hp_si, ↓reduceIte, if_true, if_false, Bool.true_eq_false, Bool.false_eq_true, eq_self, reduceCtorEq, zo0, zp0_0, zp0_1, zp0_2, zp0_4, zp0_5, zp0_6, zp0_7, zp0_8, zp0_9, zp0_10, zo1, zp1_0, zp1_5, zp1_6, zp1_9, zo16, zp16_0, zp16_5, zp16_6, zp16_9, zo31, zp31_0, zp31_5, zp31_6, zp31_9, zo46, zp46_0, zp46_1, zp46_2, zo79, zp79_0, zo83, zp83_0, zp83_1, zp83_2, zo87, zp87_0, zp87_1, zo121, zp121_0, zp121_1, zp121_2, zp121_4, zp121_5, zp121_6, zp121_7, zp121_8, zp121_16, zp121_17, zp121_18, zp121_21, zp121_23, zp121_24, zp121_25, zp121_26, zp121_27, zp121_28, zp121_29, zp121_30, zp121_31, zp121_32, zp121_33, zp121_34, zp79_2, zx2, zx13, zx14, zx15, zx17, zx28, zx29, zx30, zx32, zx43, zx44, zx45, zx47, zx78, zx80, zx84, zx85, zx86, zx88, zx89, zx90, zx99, zx120, zx122, zx123, zx124, zx125, zx126, zx127, zx128, zx129, zx130, zx131, zx132, zx133, zx134, zx135, zx136, zx137, zx138, zx139, zx140, zx141, zx142, zx143, zx144, zx145, zg2, zg17, zg32, zgo3, zgo18, zgo33, zl47, zlo, zlp, zlx, zs90, zso, zsp, zsx, zt99, zto, ztp1, ztp2, ztgo, ztso, ztsp, ztsx, zc0, zi0, zc1, zi1, zc2, zi2, zc3, zi3, zc4, zi4, zc5, zi5, hsg, c, r1]
  · rw [if_neg h3] at hsg
    have hd : dPc b n K (dlp b n K f).1 (dlp b n K f).2 op no s = (s, false) := by
      unfold dPc
      rw [if_neg h2, if_neg h1, if_neg (fun x => h3 x.1), if_neg (fun x => h3 x.1)]
    rw [hd]
    refine ⟨Xr, ?_, r2⟩
    simp only [fxX8_pieceF, fxX8_pieceF_b89, fxX8_pieceF_b124, am_gd_t, am_lt_e, am_bd_s, bi_0, bi_bz, bz0, bz1, nz2, nz10, nz100, hp_gi, hp_si, ↓reduceIte, if_true, if_false, Bool.true_eq_false, Bool.false_eq_true, eq_self, reduceCtorEq, zo0, zp0_0, zp0_1, zp0_2, zp0_4, zp0_5, zp0_6, zp0_7, zp0_8, zp0_9, zp0_10, zo1, zp1_0, zp1_5, zp1_6, zp1_9, zo16, zp16_0, zp16_5, zp16_6, zp16_9, zo31, zp31_0, zp31_5, zp31_6, zp31_9, zo46, zp46_0, zp46_1, zp46_2, zo79, zp79_0, zo83, zp83_0, zp83_1, zp83_2, zo87, zp87_0, zp87_1, zo121, zp121_0, zp121_1, zp121_2, zp121_4, zp121_5, zp121_6, zp121_7, zp121_8, zp121_16, zp121_17, zp121_18, zp121_21, zp121_23, zp121_24, zp121_25, zp121_26, zp121_27, zp121_28, zp121_29, zp121_30, zp121_31, zp121_32, zp121_33, zp121_34, zp79_2, zx2, zx13, zx14, zx15, zx17, zx28, zx29, zx30, zx32, zx43, zx44, zx45, zx47, zx78, zx80, zx84, zx85, zx86, zx88, zx89, zx90, zx99, zx120, zx122, zx123, zx124, zx125, zx126, zx127, zx128, zx129, zx130, zx131, zx132, zx133, zx134, zx135, zx136, zx137, zx138, zx139, zx140, zx141, zx142, zx143, zx144, zx145, zg2, zg17, zg32, zgo3, zgo18, zgo33, zl47, zlo, zlp, zlx, zs90, zso, zsp, zsx, zt99, zto, ztp1, ztp2, ztgo, ztso, ztsp, ztsx, zc0, zi0, zc1, zi1, zc2, zi2, zc3, zi3, zc4, zi4, zc5, zi5, hX3, n2, n1, hsg, show ((-1 : Int32) = 33) = False from by decide, show ((-1 : Int32) = 40) = False from by decide, r1]
theorem thmA {t K n : Nat} {b : Nat → Nat} {M : Mem} (ht : t < 15) (hK : K < 3) (hB : TpC M b n) : ∀ f, (∀ l op no s X, l ≤ 5 → op ≤ 8 → no ≤ 8 → 6 - l + ndP op no ≤ f → PI b n s → CA M t K s true X → ∃ X', (fxX8_lp f).1 (some 79) (nI l) (nI op) (nI no) (hp (48 + 2 * t) X) = some ((), hp (48 + 2 * t) X') ∧ CA M t K ((dlp b n K f).1 l op no s).1 ((dlp b n K f).1 l op no s).2 X') ∧ (∀ op no s X, op ≤ 8 → no ≤ 8 → ndP op no ≤ f → PI b n s → CA M t K s true X → ∃ X', (fxX8_lp f).2 (some 79) (nI op) (nI no) (hp (48 + 2 * t) X) = some ((), hp (48 + 2 * t) X') ∧ CA M t K ((dlp b n K f).2 op no s).1 ((dlp b n K f).2 op no s).2 X') := by
  have hn := hB.1
  intro f
  induction f with
  | zero =>
    refine ⟨fun l op no s X h1 h2 h3 h4 => ?_, fun op no s X h2 h3 h4 => ?_⟩
    · unfold ndP at h4; omega
    · unfold ndP at h4; omega
  | succ f ih =>
    obtain ⟨iL, iP⟩ := ih
    refine ⟨fun l op no s X h1 h2 h3 h4 hPI hCA => ?_, fun op no s X h2 h3 h4 hPI hCA => ?_⟩
    · show ∃ X', fxX8_levelF (fxX8_lp f).1 (fxX8_lp f).2 (some 79) (nI l) (nI op) (nI no) (hp (48 + 2 * t) X) = some ((), hp (48 + 2 * t) X') ∧ CA M t K (dLv b n (dlp b n K f).1 (dlp b n K f).2 l op no s).1 (dLv b n (dlp b n K f).1 (dlp b n K f).2 l op no s).2 X'
      by_cases hl : l < 5
      · have c : (nI l < (5 : Int32)) = True := zlt (n := 5) hl (by decide)
        obtain ⟨X1, p1, p2⟩ := iL (l + 1) op no s X (by omega) h2 h3 (by omega) hPI hCA
        obtain ⟨r1, r2, r3⟩ := (dlp_g (b := b) (n := n) (K := K) f).1 (l + 1) op no s hPI.1
        unfold dLv
        rw [if_pos hl]
        cases hok : ((dlp b n K f).1 (l + 1) op no s).2 with
        | true =>
          have r3 := r3 hok
          rw [hok] at p2
          obtain ⟨X2, q1, q2⟩ := lo_c (K := K) (l := l) (op := op) (no := no) (f := f) ht hB (by omega) (fun s X hP hC => iL (l + 1) op no s X (by omega) h2 h3 (by omega) hP hC) 96 0 am_F _ X1 (by omega) (by unfold am_F; omega) ⟨r1, by have := hPI.2; omega⟩ p2
          rw [if_pos rfl]
          refine ⟨X2, ?_, q2⟩
          simp only [fxX8_levelF, c, am_gd_t, am_lt_e, am_bd_s, bi_0, bi_bz, bz0, bz1, nz2, nz10, nz100, hp_gi, hp_si, ↓reduceIte, if_true, if_false, Bool.true_eq_false, Bool.false_eq_true, eq_self, reduceCtorEq, zo0, zp0_0, zp0_1, zp0_2, zp0_4, zp0_5, zp0_6, zp0_7, zp0_8, zp0_9, zp0_10, zo1, zp1_0, zp1_5, zp1_6, zp1_9, zo16, zp16_0, zp16_5, zp16_6, zp16_9, zo31, zp31_0, zp31_5, zp31_6, zp31_9, zo46, zp46_0, zp46_1, zp46_2, zo79, zp79_0, zo83, zp83_0, zp83_1, zp83_2, zo87, zp87_0, zp87_1, zo121, zp121_0, zp121_1, zp121_2, zp121_4, zp121_5, zp121_6, zp121_7, zp121_8, zp121_16, zp121_17, zp121_18, zp121_21, zp121_23, zp121_24, zp121_25, zp121_26, zp121_27, zp121_28, zp121_29, zp121_30, zp121_31, zp121_32, zp121_33, zp121_34, zp79_2, zx2, zx13, zx14, zx15, zx17, zx28, zx29, zx30, zx32, zx43, zx44, zx45, zx47, zx78, zx80, zx84, zx85, zx86, zx88, zx89, zx90, zx99, zx120, zx122, zx123, zx124, zx125, zx126, zx127, zx128, zx129, zx130, zx131, zx132, zx133, zx134, zx135, zx136, zx137, zx138, zx139, zx140, zx141, zx142, zx143, zx144, zx145, zg2, zg17, zg32, zgo3, zgo18, zgo33, zl47, zlo, zlp, zlx, zs90, zso, zsp, zsx, zt99, zto, ztp1, ztp2, ztgo, ztso, ztsp, ztsx, zc0, zi0, zc1, zi1, zc2, zi2, zc3, zi3, zc4, zi4, zc5, zi5, nI_1, p1]
          exact q1
        | false =>
          rw [hok] at p2
          rw [if_neg (by decide)]
          refine ⟨X1, ?_, by rw [hok]; exact p2⟩
          obtain ⟨N, g, q, hX1, -, hg, -⟩ := CA_f p2 (Or.inl rfl)
          have hstr : ((dlp b n K f).1 (l + 1) op no s).1.1.2.1 ≤ n := by have := r1.1; have := r1.2.1; omega
          have hend : fxX8_levelF_b24 (fxX8_lp f).1 (fxX8_lp f).2 am_F (some 79) (nI l) (nI op) (nI no) 0 (hp (48 + 2 * t) X1) = some ((), hp (48 + 2 * t) X1) := by
            rw [hX1]; exact b24_f (by rw [hg]; exact nm1 (by omega)) 3999
          simp only [fxX8_levelF, c, am_gd_t, am_lt_e, am_bd_s, bi_0, bi_bz, bz0, bz1, nz2, nz10, nz100, hp_gi, hp_si, ↓reduceIte, if_true, if_false, Bool.true_eq_false, Bool.false_eq_true, eq_self, reduceCtorEq, zo0, zp0_0, zp0_1, zp0_2, zp0_4, zp0_5, zp0_6, zp0_7, zp0_8, zp0_9, zp0_10, zo1, zp1_0, zp1_5, zp1_6, zp1_9, zo16, zp16_0, zp16_5, zp16_6, zp16_9, zo31, zp31_0, zp31_5, zp31_6, zp31_9, zo46, zp46_0, zp46_1, zp46_2, zo79, zp79_0, zo83, zp83_0, zp83_1, zp83_2, zo87, zp87_0, zp87_1, zo121, zp121_0, zp121_1, zp121_2, zp121_4, zp121_5, zp121_6, zp121_7, zp121_8, zp121_16, zp121_17, zp121_18, zp121_21, zp121_23, zp121_24, zp121_25, zp121_26, zp121_27, zp121_28, zp121_29, zp121_30, zp121_31, zp121_32, zp121_33, zp121_34, zp79_2, zx2, zx13, zx14, zx15, zx17, zx28, zx29, zx30, zx32, zx43, zx44, zx45, zx47, zx78, zx80, zx84, zx85, zx86, zx88, zx89, zx90, zx99, zx120, zx122, zx123, zx124, zx125, zx126, zx127, zx128, zx129, zx130, zx131, zx132, zx133, zx134, zx135, zx136, zx137, zx138, zx139, zx140, zx141, zx142, zx143, zx144, zx145, zg2, zg17, zg32, zgo3, zgo18, zgo33, zl47, zlo, zlp, zlx, zs90, zso, zsp, zsx, zt99, zto, ztp1, ztp2, ztgo, ztso, ztsp, ztsx, zc0, zi0, zc1, zi1, zc2, zi2, zc3, zi3, zc4, zi4, zc5, zi5, nI_1, p1]
          exact hend
      · obtain rfl : l = 5 := by omega
        obtain ⟨X1, p1, p2⟩ := iP op no s X h2 h3 (by omega) hPI hCA
        unfold dLv
        rw [if_neg hl]
        refine ⟨X1, ?_, p2⟩
        simp only [fxX8_levelF, show (nI 5 < (5 : Int32)) = False from by decide, am_gd_t, am_lt_e, am_bd_s, bi_0, bi_bz, bz0, bz1, nz2, nz10, nz100, hp_gi, hp_si, ↓reduceIte, if_true, if_false, Bool.true_eq_false, Bool.false_eq_true, eq_self, reduceCtorEq, zo0, zp0_0, zp0_1, zp0_2, zp0_4, zp0_5, zp0_6, zp0_7, zp0_8, zp0_9, zp0_10, zo1, zp1_0, zp1_5, zp1_6, zp1_9, zo16, zp16_0, zp16_5, zp16_6, zp16_9, zo31, zp31_0, zp31_5, zp31_6, zp31_9, zo46, zp46_0, zp46_1, zp46_2, zo79, zp79_0, zo83, zp83_0, zp83_1, zp83_2, zo87, zp87_0, zp87_1, zo121, zp121_0, zp121_1, zp121_2, zp121_4, zp121_5, zp121_6, zp121_7, zp121_8, zp121_16, zp121_17, zp121_18, zp121_21, zp121_23, zp121_24, zp121_25, zp121_26, zp121_27, zp121_28, zp121_29, zp121_30, zp121_31, zp121_32, zp121_33, zp121_34, zp79_2, zx2, zx13, zx14, zx15, zx17, zx28, zx29, zx30, zx32, zx43, zx44, zx45, zx47, zx78, zx80, zx84, zx85, zx86, zx88, zx89, zx90, zx99, zx120, zx122, zx123, zx124, zx125, zx126, zx127, zx128, zx129, zx130, zx131, zx132, zx133, zx134, zx135, zx136, zx137, zx138, zx139, zx140, zx141, zx142, zx143, zx144, zx145, zg2, zg17, zg32, zgo3, zgo18, zgo33, zl47, zlo, zlp, zlx, zs90, zso, zsp, zsx, zt99, zto, ztp1, ztp2, ztgo, ztso, ztsp, ztsx, zc0, zi0, zc1, zi1, zc2, zi2, zc3, zi3, zc4, zi4, zc5, zi5, p1]
    · show ∃ X', fxX8_pieceF (fxX8_lp f).1 (fxX8_lp f).2 (some 79) (nI op) (nI no) (hp (48 + 2 * t) X) = some ((), hp (48 + 2 * t) X') ∧ CA M t K (dPc b n K (dlp b n K f).1 (dlp b n K f).2 op no s).1 (dPc b n K (dlp b n K f).1 (dlp b n K f).2 op no s).2 X'
      exact pc_c ht hK hB h2 h3 (fun h8 s X hP hC => iL 0 (op + 1) no s X (by omega) (by omega) h3 (by unfold ndP at h4 ⊢; omega) hP hC) (fun h8 s X hP hC => iP op (no + 1) s X h2 (by omega) (by unfold ndP at h4 ⊢; omega) hP hC) hPI hCA
