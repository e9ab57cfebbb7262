/-! ===== the class's reading is the pure one ===== -/
def CRr (row : Nat → Int32) : List Int32 → Prop
  | [] => True
  | x :: r => crel (row r.length) x ∧ CRr row r
theorem CRr_up {row : Nat → Int32} {j : Nat} {v : Int32} : ∀ {c : List Int32}, c.length ≤ j → CRr row c → CRr (up1 row j v) c := by
  intro c
  induction c with
  | nil => intro _ _; trivial
  | cons x r ih =>
    intro h1 h2
    simp only [List.length_cons] at h1
    exact ⟨by rw [up1_ne (by omega)]; exact h2.1, ih (by omega) h2.2⟩
/-- the class stands where the pure reading does -/
def CA (M : Mem) (t K : Nat) (s : PS) (ok : Bool) (X : Mem) : Prop := ∃ (N : Mem) (f : Int32) (q len : Nat), X = TM N f (nI q) (nI s.1.2.1) (nI s.1.2.2) ∧ q ≤ 3 ∧ (s.1.1 ≠ 4 → q = s.1.1) ∧ ((ok = true ∧ s.1.1 ≠ 4 ∧ f = -1 ∧ len = s.2.1.length ∧ CRr (N (49 + 2 * t)) s.2.1 ∧ N (48 + 2 * t) 1 = nI s.2.2) ∨ ((ok = false ∨ s.1.1 = 4) ∧ f = nI s.1.2.1)) ∧ len ≤ 96 ∧ N (48 + 2 * t) 3 = nI len ∧ N (48 + 2 * t) 0 = nI K ∧ (∀ z, z ≠ 48 + 2 * t → z ≠ 49 + 2 * t → N z = M z)
theorem q_addCode {lp t len : Nat} {N : Mem} {f s st e v : Int32} (ht : t < 15) (hl : N (48 + 2 * t) 3 = nI len) (h96 : len < 96) : fxX3_addCode (some (48 + 2 * t)) v (hp lp (TM N f s st e)) = some ((), hp lp (TM (am_up (am_up N (49 + 2 * t) len v) (48 + 2 * t) 3 (nI (len + 1))) f s st e)) := by
  have h1 : ((96 : Int32) ≤ nI len) = False := zle (n := 96) h96 (by decide)
  have h2 : TM N f s st e (48 + 2 * t) 3 = nI len := by rw [tm_o (by omega)]; exact hl
  have h3 : am_up (TM N f s st e) (49 + 2 * t) len v (48 + 2 * t) 3 = nI len := by rw [am_up_ne (by omega)]; exact h2
  simp (disch := omega) only [fxX3_addCode, am_gd_t, am_lt_e, am_bd_s, bi_0, bi_bz, bz0, bz1, nz2, nz10, nz100, hp_gi, hp_si, ↓reduceIte, if_true, if_false, Bool.true_eq_false, Bool.false_eq_true, eq_self, reduceCtorEq, zo0, zp0_0, zp0_1, zp0_2, zp0_4, zp0_5, zp0_6, zp0_7, zp0_8, zp0_9, zp0_10, zo1, zp1_0, zp1_5, zp1_6, zp1_9, zo16, zp16_0, zp16_5, zp16_6, zp16_9, zo31, zp31_0, zp31_5, zp31_6, zp31_9, zo46, zp46_0, zp46_1, zp46_2, zo79, zp79_0, zo83, zp83_0, zp83_1, zp83_2, zo87, zp87_0, zp87_1, zo121, zp121_0, zp121_1, zp121_2, zp121_4, zp121_5, zp121_6, zp121_7, zp121_8, zp121_16, zp121_17, zp121_18, zp121_21, zp121_23, zp121_24, zp121_25, zp121_26, zp121_27, zp121_28, zp121_29, zp121_30, zp121_31, zp121_32, zp121_33, zp121_34, zp79_2, zx2, zx13, zx14, zx15, zx17, zx28, zx29, zx30, zx32, zx43, zx44, zx45, zx47, zx78, zx80, zx84, zx85, zx86, zx88, zx89, zx90, zx99, zx120, zx122, zx123, zx124, zx125, zx126, zx127, zx128, zx129, zx130, zx131, zx132, zx133, zx134, zx135, zx136, zx137, zx138, zx139, zx140, zx141, zx142, zx143, zx144, zx145, zg2, zg17, zg32, zgo3, zgo18, zgo33, zl47, zlo, zlp, zlx, zs90, zso, zsp, zsx, zt99, zto, ztp1, ztp2, ztgo, ztso, ztsp, ztsx, zc0, zi0, zc1, zi1, zc2, zi2, zc3, zi3, zc4, zi4, zc5, zi5, zin, zcl, nI_1, Bool.and_self, Bool.true_and, Bool.and_true, h2, h1, h3]
  rw [tm_ou (by omega), tm_ou (by omega)]
theorem q_addCode' {lp t : Nat} {N : Mem} {f s st e v : Int32} (ht : t < 15) (hl : N (48 + 2 * t) 3 = nI 96) : fxX3_addCode (some (48 + 2 * t)) v (hp lp (TM N f s st e)) = some ((), hp lp (TM N f s st e)) := by
  have h2 : TM N f s st e (48 + 2 * t) 3 = nI 96 := by rw [tm_o (by omega)]; exact hl
  simp (disch := omega) only [fxX3_addCode, am_gd_t, am_lt_e, am_bd_s, bi_0, bi_bz, bz0, bz1, nz2, nz10, nz100, hp_gi, hp_si, ↓reduceIte, if_true, if_false, Bool.true_eq_false, Bool.false_eq_true, eq_self, reduceCtorEq, zo0, zp0_0, zp0_1, zp0_2, zp0_4, zp0_5, zp0_6, zp0_7, zp0_8, zp0_9, zp0_10, zo1, zp1_0, zp1_5, zp1_6, zp1_9, zo16, zp16_0, zp16_5, zp16_6, zp16_9, zo31, zp31_0, zp31_5, zp31_6, zp31_9, zo46, zp46_0, zp46_1, zp46_2, zo79, zp79_0, zo83, zp83_0, zp83_1, zp83_2, zo87, zp87_0, zp87_1, zo121, zp121_0, zp121_1, zp121_2, zp121_4, zp121_5, zp121_6, zp121_7, zp121_8, zp121_16, zp121_17, zp121_18, zp121_21, zp121_23, zp121_24, zp121_25, zp121_26, zp121_27, zp121_28, zp121_29, zp121_30, zp121_31, zp121_32, zp121_33, zp121_34, zp79_2, zx2, zx13, zx14, zx15, zx17, zx28, zx29, zx30, zx32, zx43, zx44, zx45, zx47, zx78, zx80, zx84, zx85, zx86, zx88, zx89, zx90, zx99, zx120, zx122, zx123, zx124, zx125, zx126, zx127, zx128, zx129, zx130, zx131, zx132, zx133, zx134, zx135, zx136, zx137, zx138, zx139, zx140, zx141, zx142, zx143, zx144, zx145, zg2, zg17, zg32, zgo3, zgo18, zgo33, zl47, zlo, zlp, zlx, zs90, zso, zsp, zsx, zt99, zto, ztp1, ztp2, ztgo, ztso, ztsp, ztsx, zc0, zi0, zc1, zi1, zc2, zi2, zc3, zi3, zc4, zi4, zc5, zi5, zin, zcl, nI_1, Bool.and_self, Bool.true_and, Bool.and_true, h2, show ((96 : Int32) ≤ nI 96) = True from by decide]
theorem CA_push {lp t K : Nat} {M X : Mem} {s : PS} {v x : Int32} (ht : t < 15) (hc : crel v x) (hlen : s.2.1.length < 96) (h : CA M t K s true X) : ∃ X', fxX3_addCode (some (48 + 2 * t)) v (hp lp X) = some ((), hp lp X') ∧ CA M t K (s.1, x :: s.2.1, s.2.2) true X' := by
  obtain ⟨N, f, q, len, rfl, h1, h2, h3, h4, h5, h6, h7⟩ := h
  by_cases h96 : len < 96
  · refine ⟨_, q_addCode ht h5 h96, _, f, q, len + 1, rfl, h1, h2, ?_, by omega, by rw [up_eq], by rw [up_nj (by decide), up_nk (by omega)]; exact h6, fun z z1 z2 => by rw [am_up_ne z1, am_up_ne z2]; exact h7 z z1 z2⟩
    rcases h3 with ⟨a1, a2, a3, a4, a5, a6⟩ | ⟨a1, a2⟩
    · refine Or.inl ⟨rfl, a2, a3, by rw [a4]; rfl, ?_, by rw [up_nj (by decide), up_nk (by omega)]; exact a6⟩
      rw [am_up_ne (by omega), up_row, a4]
      exact ⟨by rw [up1_eq]; exact hc, CRr_up (Nat.le_refl _) a5⟩
    · exact Or.inr ⟨a1, a2⟩
  · obtain rfl : len = 96 := by omega
    refine ⟨_, q_addCode' ht h5, N, f, q, 96, rfl, h1, h2, ?_, by omega, h5, h6, h7⟩
    rcases h3 with ⟨a1, a2, a3, a4, a5, a6⟩ | ⟨a1, a2⟩
    · omega
    · exact Or.inr ⟨a1, a2⟩
theorem CA_push_f {lp t K : Nat} {M X : Mem} {s : PS} {v : Int32} (ht : t < 15) (h : CA M t K s false X) : ∃ X', fxX3_addCode (some (48 + 2 * t)) v (hp lp X) = some ((), hp lp X') ∧ CA M t K s false X' := by
  obtain ⟨N, f, q, len, rfl, h1, h2, h3, h4, h5, h6, h7⟩ := h
  have hf3 : f = nI s.1.2.1 := by
    rcases h3 with ⟨a1, -⟩ | ⟨-, a2⟩
    · cases a1
    · exact a2
  by_cases h96 : len < 96
  · exact ⟨_, q_addCode ht h5 h96, _, f, q, len + 1, rfl, h1, h2, Or.inr ⟨Or.inl rfl, hf3⟩, by omega, by rw [up_eq], by rw [up_nj (by decide), up_nk (by omega)]; exact h6, fun z z1 z2 => by rw [am_up_ne z1, am_up_ne z2]; exact h7 z z1 z2⟩
  · obtain rfl : len = 96 := by omega
    exact ⟨_, q_addCode' ht h5, N, f, q, 96, rfl, h1, h2, Or.inr ⟨Or.inl rfl, hf3⟩, by omega, h5, h6, h7⟩
theorem CA_oper {lp t K : Nat} {M X : Mem} {s : PS} {v x : Int32} (ht : t < 15) (hc : crel v x) (hlen : s.2.1.length < 96) (h4 : s.1.1 ≠ 4) (h : CA M t K s true X) : ∃ X', fxX3_addOperand (some (48 + 2 * t)) v (hp lp X) = some ((), hp lp X') ∧ CA M t K (s.1, x :: s.2.1, s.2.2 + 1) true X' := by
  obtain ⟨N, f, q, len, rfl, h1, h2, h3, h4', h5, h6, h7⟩ := h
  rcases h3 with ⟨a1, a2, a3, a4, a5, a6⟩ | ⟨a1, a2⟩
  · have hCA : CA M t K (s.1, s.2.1, s.2.2 + 1) true (TM (am_up N (48 + 2 * t) 1 (nI (s.2.2 + 1))) f (nI q) (nI s.1.2.1) (nI s.1.2.2)) := ⟨_, f, q, len, rfl, h1, h2, Or.inl ⟨rfl, a2, a3, a4, by rw [am_up_ne (by omega)]; exact a5, up_eq _ _ _ _⟩, h4', by rw [up_nj (by decide)]; exact h5, by rw [up_nj (by decide)]; exact h6, fun z z1 z2 => by rw [am_up_ne z1]; exact h7 z z1 z2⟩
    obtain ⟨X', p1, p2⟩ := CA_push (lp := lp) (s := (s.1, s.2.1, s.2.2 + 1)) ht hc hlen hCA
    refine ⟨X', ?_, p2⟩
    have e1 : TM N f (nI q) (nI s.1.2.1) (nI s.1.2.2) (48 + 2 * t) 1 = nI s.2.2 := by rw [tm_o (by omega)]; exact a6
    have e2 : am_up (TM N f (nI q) (nI s.1.2.1) (nI s.1.2.2)) (48 + 2 * t) 1 (nI (s.2.2 + 1)) = TM (am_up N (48 + 2 * t) 1 (nI (s.2.2 + 1))) f (nI q) (nI s.1.2.1) (nI s.1.2.2) := tm_ou (by omega)
    simp (disch := omega) only [fxX3_addOperand, am_gd_t, am_lt_e, am_bd_s, bi_0, bi_bz, bz0, bz1, nz2, nz10, nz100, hp_gi, hp_si, ↓reduceIte, if_true, if_false, Bool.true_eq_false, Bool.false_eq_true, eq_self, reduceCtorEq, zo0, zp0_0, zp0_1, zp0_2, zp0_4, zp0_5, zp0_6, zp0_7, zp0_8, zp0_9, zp0_10, zo1, zp1_0, zp1_5, zp1_6, zp1_9, zo16, zp16_0, zp16_5, zp16_6, zp16_9, zo31, zp31_0, zp31_5, zp31_6, zp31_9, zo46, zp46_0, zp46_1, zp46_2, zo79, zp79_0, zo83, zp83_0, zp83_1, zp83_2, zo87, zp87_0, zp87_1, zo121, zp121_0, zp121_1, zp121_2, zp121_4, zp121_5, zp121_6, zp121_7, zp121_8, zp121_16, zp121_17, zp121_18, zp121_21, zp121_23, zp121_24, zp121_25, zp121_26, zp121_27, zp121_28, zp121_29, zp121_30, zp121_31, zp121_32, zp121_33, zp121_34, zp79_2, zx2, zx13, zx14, zx15, zx17, zx28, zx29, zx30, zx32, zx43, zx44, zx45, zx47, zx78, zx80, zx84, zx85, zx86, zx88, zx89, zx90, zx99, zx120, zx122, zx123, zx124, zx125, zx126, zx127, zx128, zx129, zx130, zx131, zx132, zx133, zx134, zx135, zx136, zx137, zx138, zx139, zx140, zx141, zx142, zx143, zx144, zx145, zg2, zg17, zg32, zgo3, zgo18, zgo33, zl47, zlo, zlp, zlx, zs90, zso, zsp, zsx, zt99, zto, ztp1, ztp2, ztgo, ztso, ztsp, ztsx, zc0, zi0, zc1, zi1, zc2, zi2, zc3, zi3, zc4, zi4, zc5, zi5, e1, nI_1, e2, p1]
  · rcases a1 with a1 | a1
    · cases a1
    · exact absurd a1 h4
theorem TpC_c {M N : Mem} {b : Nat → Nat} {n t : Nat} (ht : t < 15) (hB : TpC M b n) (h : ∀ z, z ≠ 48 + 2 * t → z ≠ 49 + 2 * t → N z = M z) : TpC N b n := by
  obtain ⟨h1, h2, h3⟩ := hB
  refine ⟨h1, ?_, ?_⟩
  · rw [h 79 (by omega) (by omega)]; exact h2
  · rw [h 80 (by omega) (by omega)]; exact h3
theorem CA_next {lp t K n : Nat} {b : Nat → Nat} {M X : Mem} {s : PS} (ht : t < 15) (hB : TpC M b n) (hT : TkOk b n s.1) (h4 : s.1.1 ≠ 4) (h : CA M t K s true X) : ∃ X', fxX8_next (some 79) (hp lp X) = some ((), hp lp X') ∧ CA M t K (nx b n s.1, s.2) true X' := by
  obtain ⟨N, f, q, len, rfl, h1, h2, h3, h4', h5, h6, h7⟩ := h
  rcases h3 with ⟨a1, a2, a3, a4, a5, a6⟩ | ⟨a1, a2⟩
  · subst a3
    obtain rfl : q = s.1.1 := h2 h4
    obtain ⟨k1, k2⟩ := q_next (lp := lp) (st := nI s.1.2.1) (TpC_c ht hB h7) h1 hT.2.1
    by_cases hb : bdT b n s.1.1 s.1.2.2
    · exact ⟨_, k1 hb, N, _, _, len, rfl, so_le _ _ _, fun q => absurd (nx_b hb) q, Or.inr ⟨Or.inr (nx_b hb), rfl⟩, h4', h5, h6, h7⟩
    · have hne : (nx b n s.1).1 ≠ 4 := by rw [nx_s hb]; have := so_le b n (stT b n s.1.2.2); omega
      exact ⟨_, k2 hb, N, _, _, len, rfl, so_le _ _ _, fun _ => (nx_s hb).symm, Or.inl ⟨rfl, hne, rfl, a4, a5, a6⟩, h4', h5, h6, h7⟩
  · rcases a1 with a1 | a1
    · cases a1
    · exact absurd a1 h4
theorem q_sign {lp n q st : Nat} {b : Nat → Nat} {N : Mem} {f e : Int32} (hB : TpC N b n) (hq : q ≤ 3) (hst : st ≤ n) : fxX8_sign (some 79) (hp lp (TM N f (nI q) (nI st) e)) = some ((if q = 3 ∧ st < n then nI (b st) else -1), hp lp (TM N f (nI q) (nI st) e)) := by
  obtain ⟨hn, h1, h2⟩ := hB
  have c3 : (nI q = (3 : Int32)) = (q = 3) := propext (nI_eq (b := 3) (by omega) (by decide))
  by_cases q3 : q = 3
  · by_cases hlt : st < n
    · rw [if_pos ⟨q3, hlt⟩]
      simp (disch := omega) only [fxX8_sign, am_gd_t, am_lt_e, am_bd_s, bi_0, bi_bz, bz0, bz1, nz2, nz10, nz100, hp_gi, hp_si, ↓reduceIte, if_true, if_false, Bool.true_eq_false, Bool.false_eq_true, eq_self, reduceCtorEq, zo0, zp0_0, zp0_1, zp0_2, zp0_4, zp0_5, zp0_6, zp0_7, zp0_8, zp0_9, zp0_10, zo1, zp1_0, zp1_5, zp1_6, zp1_9, zo16, zp16_0, zp16_5, zp16_6, zp16_9, zo31, zp31_0, zp31_5, zp31_6, zp31_9, zo46, zp46_0, zp46_1, zp46_2, zo79, zp79_0, zo83, zp83_0, zp83_1, zp83_2, zo87, zp87_0, zp87_1, zo121, zp121_0, zp121_1, zp121_2, zp121_4, zp121_5, zp121_6, zp121_7, zp121_8, zp121_16, zp121_17, zp121_18, zp121_21, zp121_23, zp121_24, zp121_25, zp121_26, zp121_27, zp121_28, zp121_29, zp121_30, zp121_31, zp121_32, zp121_33, zp121_34, zp79_2, zx2, zx13, zx14, zx15, zx17, zx28, zx29, zx30, zx32, zx43, zx44, zx45, zx47, zx78, zx80, zx84, zx85, zx86, zx88, zx89, zx90, zx99, zx120, zx122, zx123, zx124, zx125, zx126, zx127, zx128, zx129, zx130, zx131, zx132, zx133, zx134, zx135, zx136, zx137, zx138, zx139, zx140, zx141, zx142, zx143, zx144, zx145, zg2, zg17, zg32, zgo3, zgo18, zgo33, zl47, zlo, zlp, zlx, zs90, zso, zsp, zsx, zt99, zto, ztp1, ztp2, ztgo, ztso, ztsp, ztsx, zc0, zi0, zc1, zi1, zc2, zi2, zc3, zi3, zc4, zi4, zc5, zi5, zin, zcl, nI_1, Bool.and_self, Bool.true_and, Bool.and_true, tm_1, tm_4, tm_5, tm_80, c3, q3, h1, zle, (h2 st hlt).1, show (nI 3 = (3 : Int32)) = True from by decide]
    · rw [if_neg (fun x => hlt x.2)]
      simp (disch := omega) only [fxX8_sign, am_gd_t, am_lt_e, am_bd_s, bi_0, bi_bz, bz0, bz1, nz2, nz10, nz100, hp_gi, hp_si, ↓reduceIte, if_true, if_false, Bool.true_eq_false, Bool.false_eq_true, eq_self, reduceCtorEq, zo0, zp0_0, zp0_1, zp0_2, zp0_4, zp0_5, zp0_6, zp0_7, zp0_8, zp0_9, zp0_10, zo1, zp1_0, zp1_5, zp1_6, zp1_9, zo16, zp16_0, zp16_5, zp16_6, zp16_9, zo31, zp31_0, zp31_5, zp31_6, zp31_9, zo46, zp46_0, zp46_1, zp46_2, zo79, zp79_0, zo83, zp83_0, zp83_1, zp83_2, zo87, zp87_0, zp87_1, zo121, zp121_0, zp121_1, zp121_2, zp121_4, zp121_5, zp121_6, zp121_7, zp121_8, zp121_16, zp121_17, zp121_18, zp121_21, zp121_23, zp121_24, zp121_25, zp121_26, zp121_27, zp121_28, zp121_29, zp121_30, zp121_31, zp121_32, zp121_33, zp121_34, zp79_2, zx2, zx13, zx14, zx15, zx17, zx28, zx29, zx30, zx32, zx43, zx44, zx45, zx47, zx78, zx80, zx84, zx85, zx86, zx88, zx89, zx90, zx99, zx120, zx122, zx123, zx124, zx125, zx126, zx127, zx128, zx129, zx130, zx131, zx132, zx133, zx134, zx135, zx136, zx137, zx138, zx139, zx140, zx141, zx142, zx143, zx144, zx145, zg2, zg17, zg32, zgo3, zgo18, zgo33, zl47, zlo, zlp, zlx, zs90, zso, zsp, zsx, zt99, zto, ztp1, ztp2, ztgo, ztso, ztsp, ztsx, zc0, zi0, zc1, zi1, zc2, zi2, zc3, zi3, zc4, zi4, zc5, zi5, zin, zcl, nI_1, Bool.and_self, Bool.true_and, Bool.and_true, tm_1, tm_4, tm_5, c3, q3, h1, zle', show (nI 3 = (3 : Int32)) = True from by decide]
  · rw [if_neg (fun x => q3 x.1)]
    simp (disch := omega) only [fxX8_sign, am_gd_t, am_lt_e, am_bd_s, bi_0, bi_bz, bz0, bz1, nz2, nz10, nz100, hp_gi, hp_si, ↓reduceIte, if_true, if_false, Bool.true_eq_false, Bool.false_eq_true, eq_self, reduceCtorEq, zo0, zp0_0, zp0_1, zp0_2, zp0_4, zp0_5, zp0_6, zp0_7, zp0_8, zp0_9, zp0_10, zo1, zp1_0, zp1_5, zp1_6, zp1_9, zo16, zp16_0, zp16_5, zp16_6, zp16_9, zo31, zp31_0, zp31_5, zp31_6, zp31_9, zo46, zp46_0, zp46_1, zp46_2, zo79, zp79_0, zo83, zp83_0, zp83_1, zp83_2, zo87, zp87_0, zp87_1, zo121, zp121_0, zp121_1, zp121_2, zp121_4, zp121_5, zp121_6, zp121_7, zp121_8, zp121_16, zp121_17, zp121_18, zp121_21, zp121_23, zp121_24, zp121_25, zp121_26, zp121_27, zp121_28, zp121_29, zp121_30, zp121_31, zp121_32, zp121_33, zp121_34, zp79_2, zx2, zx13, zx14, zx15, zx17, zx28, zx29, zx30, zx32, zx43, zx44, zx45, zx47, zx78, zx80, zx84, zx85, zx86, zx88, zx89, zx90, zx99, zx120, zx122, zx123, zx124, zx125, zx126, zx127, zx128, zx129, zx130, zx131, zx132, zx133, zx134, zx135, zx136, zx137, zx138, zx139, zx140, zx141, zx142, zx143, zx144, zx145, zg2, zg17, zg32, zgo3, zgo18, zgo33, zl47, zlo, zlp, zlx, zs90, zso, zsp, zsx, zt99, zto, ztp1, ztp2, ztgo, ztso, ztsp, ztsx, zc0, zi0, zc1, zi1, zc2, zi2, zc3, zi3, zc4, zi4, zc5, zi5, tm_4, c3, q3]
/-- of the class that reads on: its sign -/
theorem CA_sign {lp t K n : Nat} {b : Nat → Nat} {M X : Mem} {s : PS} (ht : t < 15) (hB : TpC M b n) (hT : TkOk b n s.1) (h4 : s.1.1 ≠ 4) (h : CA M t K s true X) : fxX8_sign (some 79) (hp lp X) = some ((if s.1.1 = 3 then nI (b s.1.2.1) else -1), hp lp X) := by
  obtain ⟨N, f, q, len, rfl, h1, h2, h3, h4', h5, h6, h7⟩ := h
  obtain rfl : q = s.1.1 := h2 h4
  rw [q_sign (TpC_c ht hB h7) h1 (by have := hT.1; have := hT.2.1; omega)]
  by_cases q3 : s.1.1 = 3
  · rw [if_pos q3, if_pos ⟨q3, (hT.2.2.2.1 (by omega)).1⟩]
  · rw [if_neg q3, if_neg (fun x => q3 x.1)]
theorem CA_f {M X : Mem} {t K : Nat} {s : PS} {ok : Bool} (h : CA M t K s ok X) (hf : ok = false ∨ s.1.1 = 4) : ∃ (N : Mem) (f : Int32) (q : Nat), X = TM N f (nI q) (nI s.1.2.1) (nI s.1.2.2) ∧ q ≤ 3 ∧ f = nI s.1.2.1 ∧ (∀ z, z ≠ 48 + 2 * t → z ≠ 49 + 2 * t → N z = M z) ∧ CA M t K s false X := by
  obtain ⟨N, f, q, len, e, h1, h2, h3, h4', h5, h6, h7⟩ := h
  have h3 : f = nI s.1.2.1 := by
    rcases h3 with ⟨a1, a2, -⟩ | ⟨-, a2⟩
    · rcases hf with hf | hf
      · rw [hf] at a1; cases a1
      · exact absurd hf a2
    · exact a2
  exact ⟨N, f, q, e, h1, h3, h7, N, f, q, len, e, h1, h2, Or.inr ⟨Or.inl rfl, h3⟩, h4', h5, h6, h7⟩
theorem CA_ok {M X : Mem} {t K : Nat} {s : PS} (h : CA M t K s true X) (h4 : s.1.1 ≠ 4) : ∃ (N : Mem) (len : Nat), X = TM N (-1) (nI s.1.1) (nI s.1.2.1) (nI s.1.2.2) ∧ s.1.1 ≤ 3 ∧ N (48 + 2 * t) 0 = nI K ∧ (∀ z, z ≠ 48 + 2 * t → z ≠ 49 + 2 * t → N z = M z) := by
  obtain ⟨N, f, q, len, e, h1, h2, h3, h4', h5, h6, h7⟩ := h
  obtain rfl : q = s.1.1 := h2 h4
  rcases h3 with ⟨a1, a2, a3, -⟩ | ⟨a1, a2⟩
  · subst a3
    exact ⟨N, len, e, h1, h6, h7⟩
  · rcases a1 with a1 | a1
    · cases a1
    · exact absurd a1 h4
theorem CA_ref {lp t K : Nat} {M X : Mem} {s : PS} (h4 : s.1.1 ≠ 4) (h : CA M t K s true X) : ∃ X', fxX8_refuse (some 79) (hp lp X) = some ((), hp lp X') ∧ CA M t K s false X' := by
  obtain ⟨N, f, q, len, rfl, h1, h2, h3, h4', h5, h6, h7⟩ := h
  rcases h3 with ⟨a1, a2, a3, -⟩ | ⟨a1, a2⟩
  · subst a3
    exact ⟨_, q_refuse, N, _, q, len, rfl, h1, h2, Or.inr ⟨Or.inl rfl, rfl⟩, h4', h5, h6, h7⟩
  · rcases a1 with a1 | a1
    · cases a1
    · exact absurd a1 h4
theorem CA_close {lp t K n : Nat} {b : Nat → Nat} {M X : Mem} {s : PS} (ht : t < 15) (hB : TpC M b n) (hT : TkOk b n s.1) (h : CA M t K s true X) : ∃ X', fxX8_close (some 79) (hp lp X) = some ((), hp lp X') ∧ (if s.1.1 = 3 ∧ b s.1.2.1 = 41 then CA M t K (nx b n s.1, s.2) true X' else CA M t K s false X') := by
  have hn := hB.1
  by_cases h4 : s.1.1 = 4
  · obtain ⟨N, f, q, rfl, h1, hf, h7, hCA⟩ := CA_f h (Or.inr h4)
    have hst : s.1.2.1 ≤ n := by have := hT.1; have := hT.2.1; omega
    have hne : ¬ f = -1 := by rw [hf]; exact nm1 (by omega)
    refine ⟨_, ?_, by rw [if_neg (by omega)]; exact hCA⟩
    simp only [fxX8_close, am_gd_t, am_lt_e, am_bd_s, bi_0, bi_bz, bz0, bz1, nz2, nz10, nz100, hp_gi, hp_si, ↓reduceIte, if_true, if_false, Bool.true_eq_false, Bool.false_eq_true, eq_self, reduceCtorEq, zo0, zp0_0, zp0_1, zp0_2, zp0_4, zp0_5, zp0_6, zp0_7, zp0_8, zp0_9, zp0_10, zo1, zp1_0, zp1_5, zp1_6, zp1_9, zo16, zp16_0, zp16_5, zp16_6, zp16_9, zo31, zp31_0, zp31_5, zp31_6, zp31_9, zo46, zp46_0, zp46_1, zp46_2, zo79, zp79_0, zo83, zp83_0, zp83_1, zp83_2, zo87, zp87_0, zp87_1, zo121, zp121_0, zp121_1, zp121_2, zp121_4, zp121_5, zp121_6, zp121_7, zp121_8, zp121_16, zp121_17, zp121_18, zp121_21, zp121_23, zp121_24, zp121_25, zp121_26, zp121_27, zp121_28, zp121_29, zp121_30, zp121_31, zp121_32, zp121_33, zp121_34, zp79_2, zx2, zx13, zx14, zx15, zx17, zx28, zx29, zx30, zx32, zx43, zx44, zx45, zx47, zx78, zx80, zx84, zx85, zx86, zx88, zx89, zx90, zx99, zx120, zx122, zx123, zx124, zx125, zx126, zx127, zx128, zx129, zx130, zx131, zx132, zx133, zx134, zx135, zx136, zx137, zx138, zx139, zx140, zx141, zx142, zx143, zx144, zx145, zg2, zg17, zg32, zgo3, zgo18, zgo33, zl47, zlo, zlp, zlx, zs90, zso, zsp, zsx, zt99, zto, ztp1, ztp2, ztgo, ztso, ztsp, ztsx, zc0, zi0, zc1, zi1, zc2, zi2, zc3, zi3, zc4, zi4, zc5, zi5, q_sign (TpC_c ht hB h7) h1 hst, q_refuse' hne, q_next' hne, ite_self]
  · have hs := CA_sign (lp := lp) ht hB hT h4 h
    obtain ⟨N, len, hX, -⟩ := CA_ok h h4
    by_cases h3 : s.1.1 = 3
    · have hb : b s.1.2.1 ≤ 255 := ((hB.2.2 _ (hT.2.2.2.1 (by omega)).1).2)
      have c : (nI (b s.1.2.1) = (41 : Int32)) = (b s.1.2.1 = 41) := propext (nI_eq (b := 41) (by omega) (by decide))
      rw [if_pos h3] at hs
      by_cases h41 : b s.1.2.1 = 41
      · obtain ⟨X', p1, p2⟩ := CA_next (lp := lp) ht hB hT h4 h
        refine ⟨X', ?_, by rw [if_pos ⟨h3, h41⟩]; exact p2⟩
        simp only [fxX8_close, am_gd_t, am_lt_e, am_bd_s, bi_0, bi_bz, bz0, bz1, nz2, nz10, nz100, hp_gi, hp_si, ↓reduceIte, if_true, if_false, Bool.true_eq_false, Bool.false_eq_true, eq_self, reduceCtorEq, zo0, zp0_0, zp0_1, zp0_2, zp0_4, zp0_5, zp0_6, zp0_7, zp0_8, zp0_9, zp0_10, zo1, zp1_0, zp1_5, zp1_6, zp1_9, zo16, zp16_0, zp16_5, zp16_6, zp16_9, zo31, zp31_0, zp31_5, zp31_6, zp31_9, zo46, zp46_0, zp46_1, zp46_2, zo79, zp79_0, zo83, zp83_0, zp83_1, zp83_2, zo87, zp87_0, zp87_1, zo121, zp121_0, zp121_1, zp121_2, zp121_4, zp121_5, zp121_6, zp121_7, zp121_8, zp121_16, zp121_17, zp121_18, zp121_21, zp121_23, zp121_24, zp121_25, zp121_26, zp121_27, zp121_28, zp121_29, zp121_30, zp121_31, zp121_32, zp121_33, zp121_34, zp79_2, zx2, zx13, zx14, zx15, zx17, zx28, zx29, zx30, zx32, zx43, zx44, zx45, zx47, zx78, zx80, zx84, zx85, zx86, zx88, zx89, zx90, zx99, zx120, zx122, zx123, zx124, zx125, zx126, zx127, zx128, zx129, zx130, zx131, zx132, zx133, zx134, zx135, zx136, zx137, zx138, zx139, zx140, zx141, zx142, zx143, zx144, zx145, zg2, zg17, zg32, zgo3, zgo18, zgo33, zl47, zlo, zlp, zlx, zs90, zso, zsp, zsx, zt99, zto, ztp1, ztp2, ztgo, ztso, ztsp, ztsx, zc0, zi0, zc1, zi1, zc2, zi2, zc3, zi3, zc4, zi4, zc5, zi5, hs, h41, show (nI 41 = (41 : Int32)) = True from by decide, p1]
      · obtain ⟨X', p1, p2⟩ := CA_ref (lp := lp) h4 h
        refine ⟨X', ?_, by rw [if_neg (fun x => h41 x.2)]; exact p2⟩
        simp only [fxX8_close, am_gd_t, am_lt_e, am_bd_s, bi_0, bi_bz, bz0, bz1, nz2, nz10, nz100, hp_gi, hp_si, ↓reduceIte, if_true, if_false, Bool.true_eq_false, Bool.false_eq_true, eq_self, reduceCtorEq, zo0, zp0_0, zp0_1, zp0_2, zp0_4, zp0_5, zp0_6, zp0_7, zp0_8, zp0_9, zp0_10, zo1, zp1_0, zp1_5, zp1_6, zp1_9, zo16, zp16_0, zp16_5, zp16_6, zp16_9, zo31, zp31_0, zp31_5, zp31_6, zp31_9, zo46, zp46_0, zp46_1, zp46_2, zo79, zp79_0, zo83, zp83_0, zp83_1, zp83_2, zo87, zp87_0, zp87_1, zo121, zp121_0, zp121_1, zp121_2, zp121_4, zp121_5, zp121_6, zp121_7, zp121_8, zp121_16, zp121_17, zp121_18, zp121_21, zp121_23, zp121_24, zp121_25, zp121_26, zp121_27, zp121_28, zp121_29, zp121_30, zp121_31, zp121_32, zp121_33, zp121_34, zp79_2, zx2, zx13, zx14, zx15, zx17, zx28, zx29, zx30, zx32, zx43, zx44, zx45, zx47, zx78, zx80, zx84, zx85, zx86, zx88, zx89, zx90, zx99, zx120, zx122, zx123, zx124, zx125, zx126, zx127, zx128, zx129, zx130, zx131, zx132, zx133, zx134, zx135, zx136, zx137, zx138, zx139, zx140, zx141, zx142, zx143, zx144, zx145, zg2, zg17, zg32, zgo3, zgo18, zgo33, zl47, zlo, zlp, zlx, zs90, zso, zsp, zsx, zt99, zto, ztp1, ztp2, ztgo, ztso, ztsp, ztsx, zc0, zi0, zc1, zi1, zc2, zi2, zc3, zi3, zc4, zi4, zc5, zi5, hs, c, h41, p1]
    · rw [if_neg h3] at hs
      obtain ⟨X', p1, p2⟩ := CA_ref (lp := lp) h4 h
      refine ⟨X', ?_, by rw [if_neg (fun x => h3 x.1)]; exact p2⟩
      simp only [fxX8_close, am_gd_t, am_lt_e, am_bd_s, bi_0, bi_bz, bz0, bz1, nz2, nz10, nz100, hp_gi, hp_si, ↓reduceIte, if_true, if_false, Bool.true_eq_false, Bool.false_eq_true, eq_self, reduceCtorEq, zo0, zp0_0, zp0_1, zp0_2, zp0_4, zp0_5, zp0_6, zp0_7, zp0_8, zp0_9, zp0_10, zo1, zp1_0, zp1_5, zp1_6, zp1_9, zo16, zp16_0, zp16_5, zp16_6, zp16_9, zo31, zp31_0, zp31_5, zp31_6, zp31_9, zo46, zp46_0, zp46_1, zp46_2, zo79, zp79_0, zo83, zp83_0, zp83_1, zp83_2, zo87, zp87_0, zp87_1, zo121, zp121_0, zp121_1, zp121_2, zp121_4, zp121_5, zp121_6, zp121_7, zp121_8, zp121_16, zp121_17, zp121_18, zp121_21, zp121_23, zp121_24, zp121_25, zp121_26, zp121_27, zp121_28, zp121_29, zp121_30, zp121_31, zp121_32, zp121_33, zp121_34, zp79_2, zx2, zx13, zx14, zx15, zx17, zx28, zx29, zx30, zx32, zx43, zx44, zx45, zx47, zx78, zx80, zx84, zx85, zx86, zx88, zx89, zx90, zx99, zx120, zx122, zx123, zx124, zx125, zx126, zx127, zx128, zx129, zx130, zx131, zx132, zx133, zx134, zx135, zx136, zx137, zx138, zx139, zx140, zx141, zx142, zx143, zx144, zx145, zg2, zg17, zg32, zgo3, zgo18, zgo33, zl47, zlo, zlp, zlx, zs90, zso, zsp, zsx, zt99, zto, ztp1, ztp2, ztgo, ztso, ztsp, ztsx, zc0, zi0, zc1, zi1, zc2, zi2, zc3, zi3, zc4, zi4, zc5, zi5, hs, show ((-1 : Int32) = 41) = False from by decide, p1]
theorem CA_close_f {lp t K n : Nat} {b : Nat → Nat} {M X : Mem} {s : PS} (ht : t < 15) (hB : TpC M b n) (hT : TkOk b n s.1) (h : CA M t K s false X) : fxX8_close (some 79) (hp lp X) = some ((), hp lp X) := by
  have hn := hB.1
  obtain ⟨N, f, q, rfl, h1, hf, h7, hCA⟩ := CA_f h (Or.inl rfl)
  have hst : s.1.2.1 ≤ n := by have := hT.1; have := hT.2.1; omega
  have hne : ¬ f = -1 := by rw [hf]; exact nm1 (by omega)
  simp only [fxX8_close, am_gd_t, am_lt_e, am_bd_s, bi_0, bi_bz, bz0, bz1, nz2, nz10, nz100, hp_gi, hp_si, ↓reduceIte, if_true, if_false, Bool.true_eq_false, Bool.false_eq_true, eq_self, reduceCtorEq, zo0, zp0_0, zp0_1, zp0_2, zp0_4, zp0_5, zp0_6, zp0_7, zp0_8, zp0_9, zp0_10, zo1, zp1_0, zp1_5, zp1_6, zp1_9, zo16, zp16_0, zp16_5, zp16_6, zp16_9, zo31, zp31_0, zp31_5, zp31_6, zp31_9, zo46, zp46_0, zp46_1, zp46_2, zo79, zp79_0, zo83, zp83_0, zp83_1, zp83_2, zo87, zp87_0, zp87_1, zo121, zp121_0, zp121_1, zp121_2, zp121_4, zp121_5, zp121_6, zp121_7, zp121_8, zp121_16, zp121_17, zp121_18, zp121_21, zp121_23, zp121_24, zp121_25, zp121_26, zp121_27, zp121_28, zp121_29, zp121_30, zp121_31, zp121_32, zp121_33, zp121_34, zp79_2, zx2, zx13, zx14, zx15, zx17, zx28, zx29, zx30, zx32, zx43, zx44, zx45, zx47, zx78, zx80, zx84, zx85, zx86, zx88, zx89, zx90, zx99, zx120, zx122, zx123, zx124, zx125, zx126, zx127, zx128, zx129, zx130, zx131, zx132, zx133, zx134, zx135, zx136, zx137, zx138, zx139, zx140, zx141, zx142, zx143, zx144, zx145, zg2, zg17, zg32, zgo3, zgo18, zgo33, zl47, zlo, zlp, zlx, zs90, zso, zsp, zsx, zt99, zto, ztp1, ztp2, ztgo, ztso, ztsp, ztsx, zc0, zi0, zc1, zi1, zc2, zi2, zc3, zi3, zc4, zi4, zc5, zi5, q_sign (TpC_c ht hB h7) h1 hst, q_refuse' hne, q_next' hne, ite_self]
/-- once there is a fault, nothing more is read -/
theorem b24_f {lp : Nat} {N : Mem} {f s st e l op no i : Int32} {fL : Option Nat → Int32 → Int32 → Int32 → am_H → Option (Unit × am_H)} {fP : Option Nat → Int32 → Int32 → am_H → Option (Unit × am_H)} (hf : ¬ f = -1) (fuel : Nat) : fxX8_levelF_b24 fL fP (fuel + 1) (some 79) l op no i (hp lp (TM N f s st e)) = some ((), hp lp (TM N f s st e)) := by
  by_cases h : (96 : Int32) ≤ i
  · simp only [fxX8_levelF_b24, h, ↓reduceIte, if_true, if_false, Bool.true_eq_false, Bool.false_eq_true, eq_self, reduceCtorEq]
  · simp only [fxX8_levelF_b24, h, am_gd_t, am_lt_e, am_bd_s, bi_0, bi_bz, bz0, bz1, nz2, nz10, nz100, hp_gi, hp_si, ↓reduceIte, if_true, if_false, Bool.true_eq_false, Bool.false_eq_true, eq_self, reduceCtorEq, zo0, zp0_0, zp0_1, zp0_2, zp0_4, zp0_5, zp0_6, zp0_7, zp0_8, zp0_9, zp0_10, zo1, zp1_0, zp1_5, zp1_6, zp1_9, zo16, zp16_0, zp16_5, zp16_6, zp16_9, zo31, zp31_0, zp31_5, zp31_6, zp31_9, zo46, zp46_0, zp46_1, zp46_2, zo79, zp79_0, zo83, zp83_0, zp83_1, zp83_2, zo87, zp87_0, zp87_1, zo121, zp121_0, zp121_1, zp121_2, zp121_4, zp121_5, zp121_6, zp121_7, zp121_8, zp121_16, zp121_17, zp121_18, zp121_21, zp121_23, zp121_24, zp121_25, zp121_26, zp121_27, zp121_28, zp121_29, zp121_30, zp121_31, zp121_32, zp121_33, zp121_34, zp79_2, zx2, zx13, zx14, zx15, zx17, zx28, zx29, zx30, zx32, zx43, zx44, zx45, zx47, zx78, zx80, zx84, zx85, zx86, zx88, zx89, zx90, zx99, zx120, zx122, zx123, zx124, zx125, zx126, zx127, zx128, zx129, zx130, zx131, zx132, zx133, zx134, zx135, zx136, zx137, zx138, zx139, zx140, zx141, zx142, zx143, zx144, zx145, zg2, zg17, zg32, zgo3, zgo18, zgo33, zl47, zlo, zlp, zlx, zs90, zso, zsp, zsx, zt99, zto, ztp1, ztp2, ztgo, ztso, ztsp, ztsx, zc0, zi0, zc1, zi1, zc2, zi2, zc3, zi3, zc4, zi4, zc5, zi5, tm_3, hf]
theorem lvl {v l : Nat} (hv : v < 256) (hl : l ≤ 4) : ∃ r, (∀ h, fxX8_levelOf (nI v) h = some (r, h)) ∧ ((r = nI l) = (¬ bs v = 0 ∧ rk (bs v) = l + 1)) := by
  by_cases h : v = 38 ∨ v = 42 ∨ v = 43 ∨ v = 45 ∨ v = 47 ∨ v = 60 ∨ v = 61 ∨ v = 62 ∨ v = 124
  · rcases h with rfl | rfl | rfl | rfl | rfl | rfl | rfl | rfl | rfl
    · exact ⟨1, fun h => rfl, by rcases (show l = 0 ∨ l = 1 ∨ l = 2 ∨ l = 3 ∨ l = 4 by omega) with rfl | rfl | rfl | rfl | rfl <;> decide⟩
    · exact ⟨4, fun h => rfl, by rcases (show l = 0 ∨ l = 1 ∨ l = 2 ∨ l = 3 ∨ l = 4 by omega) with rfl | rfl | rfl | rfl | rfl <;> decide⟩
    · exact ⟨3, fun h => rfl, by rcases (show l = 0 ∨ l = 1 ∨ l = 2 ∨ l = 3 ∨ l = 4 by omega) with rfl | rfl | rfl | rfl | rfl <;> decide⟩
    · exact ⟨3, fun h => rfl, by rcases (show l = 0 ∨ l = 1 ∨ l = 2 ∨ l = 3 ∨ l = 4 by omega) with rfl | rfl | rfl | rfl | rfl <;> decide⟩
    · exact ⟨4, fun h => rfl, by rcases (show l = 0 ∨ l = 1 ∨ l = 2 ∨ l = 3 ∨ l = 4 by omega) with rfl | rfl | rfl | rfl | rfl <;> decide⟩
    · exact ⟨2, fun h => rfl, by rcases (show l = 0 ∨ l = 1 ∨ l = 2 ∨ l = 3 ∨ l = 4 by omega) with rfl | rfl | rfl | rfl | rfl <;> decide⟩
    · exact ⟨2, fun h => rfl, by rcases (show l = 0 ∨ l = 1 ∨ l = 2 ∨ l = 3 ∨ l = 4 by omega) with rfl | rfl | rfl | rfl | rfl <;> decide⟩
    · exact ⟨2, fun h => rfl, by rcases (show l = 0 ∨ l = 1 ∨ l = 2 ∨ l = 3 ∨ l = 4 by omega) with rfl | rfl | rfl | rfl | rfl <;> decide⟩
    · exact ⟨0, fun h => rfl, by rcases (show l = 0 ∨ l = 1 ∨ l = 2 ∨ l = 3 ∨ l = 4 by omega) with rfl | rfl | rfl | rfl | rfl <;> decide⟩
  · have hb : bs v = 0 := by unfold bs; repeat' rw [if_neg (by omega)]
    refine ⟨-1, fun hh => ?_, ?_⟩
    · have c := fun (k : Nat) (hk : k < 256) (hne : v ≠ k) => (show (nI v = nI k) = False from zne hne (by omega) (by omega))
      unfold fxX8_levelOf
      rw [if_neg (fun q => by have := (nI_eq (b := 38) (by omega) (by decide)).mp q; omega), if_neg (fun q => by have := (nI_eq (b := 42) (by omega) (by decide)).mp q; omega), if_neg (fun q => by have := (nI_eq (b := 43) (by omega) (by decide)).mp q; omega), if_neg (fun q => by have := (nI_eq (b := 45) (by omega) (by decide)).mp q; omega), if_neg (fun q => by have := (nI_eq (b := 47) (by omega) (by decide)).mp q; omega), if_neg (fun q => by have := (nI_eq (b := 60) (by omega) (by decide)).mp q; omega), if_neg (fun q => by have := (nI_eq (b := 61) (by omega) (by decide)).mp q; omega), if_neg (fun q => by have := (nI_eq (b := 62) (by omega) (by decide)).mp q; omega), if_neg (fun q => by have := (nI_eq (b := 124) (by omega) (by decide)).mp q; omega)]
    · apply propext
      constructor
      · intro q; have := nm1 (t := l) (by omega); exact absurd q.symm this
      · intro q; exact absurd hb q.1
theorem crel_bs {v : Nat} (h : ¬ bs v = 0) : crel (-(nI v)) (bs v) := by
  by_cases q : v = 38 ∨ v = 42 ∨ v = 43 ∨ v = 45 ∨ v = 47 ∨ v = 60 ∨ v = 61 ∨ v = 62 ∨ v = 124
  · refine Or.inr (Or.inr ?_)
    rcases q with rfl | rfl | rfl | rfl | rfl | rfl | rfl | rfl | rfl <;> decide
  · exact absurd (by unfold bs; repeat' rw [if_neg (by omega)]) h
theorem m1_nI {l : Nat} (hl : l < 1000000) : ((-1 : Int32) = nI l) = False := eq_false (fun q => nm1 hl q.symm)
/-- one level's row of signs -/
theorem lo_c {t K n l op no f : Nat} {b : Nat → Nat} {M : Mem} (ht : t < 15) (hB : TpC M b n) (hl : l ≤ 4) (hIH : ∀ s X, PI b n s → CA M t K s true X → ∃ X', (fxX8_lp f).1 (some 79) (nI (l + 1)) (nI op) (nI no) (hp (48 + 2 * t) X) = some ((), hp (48 + 2 * t) X') ∧ CA M t K ((dlp b n K f).1 (l + 1) op no s).1 ((dlp b n K f).1 (l + 1) op no s).2 X') : ∀ k i fuel s X, i + k = 96 → k < fuel → PI b n s → CA M t K s true X → ∃ X', fxX8_levelF_b24 (fxX8_lp f).1 (fxX8_lp f).2 fuel (some 79) (nI l) (nI op) (nI no) (nI i) (hp (48 + 2 * t) X) = some ((), hp (48 + 2 * t) X') ∧ CA M t K (dLo b n ((dlp b n K f).1 (l + 1) op no) l k s).1 (dLo b n ((dlp b n K f).1 (l + 1) op no) l k s).2 X' := by
  have hn := hB.1
  intro k
  induction k with
  | zero =>
    intro i fuel s X hi hf hPI hCA
    obtain ⟨fuel, rfl⟩ : ∃ f, fuel = f + 1 := ⟨fuel - 1, by omega⟩
    obtain rfl : i = 96 := by omega
    refine ⟨X, ?_, hCA⟩
    simp only [fxX8_levelF_b24, show ((96 : Int32) ≤ nI 96) = True from by decide, ↓reduceIte, if_true, if_false, Bool.true_eq_false, Bool.false_eq_true, eq_self, reduceCtorEq]
  | succ k ih =>
    intro i fuel s X hi hf hPI hCA
    obtain ⟨fuel, rfl⟩ : ∃ f, fuel = f + 1 := ⟨fuel - 1, by omega⟩
    have hT := hPI.1
    have h96 : ((96 : Int32) ≤ nI i) = False := zle (n := 96) (by omega) (by decide)
    by_cases h4 : s.1.1 = 4
    · obtain ⟨N, g, q, rfl, h1, hg, h7, hCf⟩ := CA_f hCA (Or.inr h4)
      have hst : s.1.2.1 ≤ n := by have := hT.1; have := hT.2.1; omega
      refine ⟨_, b24_f (by rw [hg]; exact nm1 (by omega)) fuel, ?_⟩
      have hsh : sh b s.1 = 0 := by unfold sh; rw [if_neg (by omega)]
      unfold dLo
      rw [if_neg (fun x => x.1 hsh)]
      exact hCA
    · have hsg := CA_sign (lp := 48 + 2 * t) ht hB hT h4 hCA
      obtain ⟨N, len, hX, -⟩ := CA_ok hCA h4
      have hX3 : X 79 3 = -1 := by rw [hX, tm_3]
      by_cases hc : ¬ sh b s.1 = 0 ∧ rk (sh b s.1) = l + 1
      · have h3 := sh_3 hc.1
        have hlt := (hT.2.2.2.1 (by omega)).1
        have hb255 := (hB.2.2 _ hlt).2
        have hshb : sh b s.1 = bs (b s.1.2.1) := by unfold sh; rw [if_pos h3]
        rw [if_pos h3] at hsg
        obtain ⟨r, hr1, hr2⟩ := lvl (v := b s.1.2.1) (l := l) (by omega) hl
        have hr3 : r = nI l := by rw [hr2, ← hshb]; exact hc
        subst hr3
        obtain ⟨g1, g2⟩ := nx_go hT (by omega)
        obtain ⟨X1, p1, p2⟩ := CA_next (lp := 48 + 2 * t) ht hB hT h4 hCA
        obtain ⟨X2, u1, u2⟩ := hIH (nx b n s.1, s.2) X1 ⟨g1, by have := hPI.2; dsimp only; omega⟩ p2
        obtain ⟨r1, r2, r3⟩ := (dlp_g (b := b) (n := n) (K := K) f).1 (l + 1) op no (nx b n s.1, s.2) g1
        generalize hrr : (dlp b n K f).1 (l + 1) op no (nx b n s.1, s.2) = rr at *
        dsimp only at r2 r3
        have hlp : nI l + 1 = nI (l + 1) := nI_1 l
        have e2 : (nI l = (2 : Int32)) = (l = 2) := propext (nI_eq (b := 2) (by omega) (by decide))
        have hlo : ∀ Z : Mem, am_ob (hp (48 + 2 * t) Z) (some (48 + 2 * t)) 3 = true := fun Z => zlo ht
        have hstr : rr.1.1.2.1 ≤ n := by have := r1.1; have := r1.2.1; omega
        have hun : dLo b n ((dlp b n K f).1 (l + 1) op no) l (k + 1) s = (if rr.2 = true then (if l = 2 then ((rr.1.1, sh b s.1 :: rr.1.2.1, rr.1.2.2), true) else dLo b n ((dlp b n K f).1 (l + 1) op no) l k (rr.1.1, sh b s.1 :: rr.1.2.1, rr.1.2.2)) else rr) := by
          rw [dLo, if_pos hc, hrr]
        rw [hun]
        cases hok : rr.2 with
        | true =>
          have r3 := r3 hok
          rw [hok] at u2
          obtain ⟨X3, v1, v2⟩ := CA_push (lp := 48 + 2 * t) (x := sh b s.1) ht (v := -(nI (b s.1.2.1))) (by rw [hshb]; exact crel_bs (by rw [← hshb]; exact hc.1)) (by have := hPI.2; omega) u2
          rw [if_pos rfl]
          by_cases hl2 : l = 2
          · rw [if_pos hl2]
            refine ⟨X3, ?_, v2⟩
            have e2t := e2.trans (eq_true hl2)
            simp only [fxX8_levelF_b24, h96, am_gd_t, am_lt_e, am_bd_s, bi_0, bi_bz, bz0, bz1, nz2, nz10, nz100, hp_gi, hp_si, ↓reduceIte, if_true, if_false, Bool.true_eq_false, Bool.false_eq_true, eq_self, reduceCtorEq, zo0, zp0_0, zp0_1, zp0_2, zp0_4, zp0_5, zp0_6, zp0_7, zp0_8, zp0_9, zp0_10, zo1, zp1_0, zp1_5, zp1_6, zp1_9, zo16, zp16_0, zp16_5, zp16_6, zp16_9, zo31, zp31_0, zp31_5, zp31_6, zp31_9, zo46, zp46_0, zp46_1, zp46_2, zo79, zp79_0, zo83, zp83_0, zp83_1, zp83_2, zo87, zp87_0, zp87_1, zo121, zp121_0, zp121_1, zp121_2, zp121_4, zp121_5, zp121_6, zp121_7, zp121_8, zp121_16, zp121_17, zp121_18, zp121_21, zp121_23, zp121_24, zp121_25, zp121_26, zp121_27, zp121_28, zp121_29, zp121_30, zp121_31, zp121_32, zp121_33, zp121_34, zp79_2, zx2, zx13, zx14, zx15, zx17, zx28, zx29, zx30, zx32, zx43, zx44, zx45, zx47, zx78, zx80, zx84, zx85, zx86, zx88, zx89, zx90, zx99, zx120, zx122, zx123, zx124, zx125, zx126, zx127, zx128, zx129, zx130, zx131, zx132, zx133, zx134, zx135, zx136, zx137, zx138, zx139, zx140, zx141, zx142, zx143, zx144, zx145, zg2, zg17, zg32, zgo3, zgo18, zgo33, zl47, zlo, zlp, zlx, zs90, zso, zsp, zsx, zt99, zto, ztp1, ztp2, ztgo, ztso, ztsp, ztsx, zc0, zi0, zc1, zi1, zc2, zi2, zc3, zi3, zc4, zi4, zc5, zi5, hX3, hsg, hr1, p1, hlp, u1, hlo, v1, e2t]
          · rw [if_neg hl2]
            obtain ⟨X4, w1, w2⟩ := ih (i + 1) fuel (rr.1.1, sh b s.1 :: rr.1.2.1, rr.1.2.2) X3 (by omega) (by omega) ⟨r1, by have := hPI.2; simp only [List.length_cons]; omega⟩ v2
            refine ⟨X4, ?_, w2⟩
            have e2t := e2.trans (eq_false hl2)
            simp only [fxX8_levelF_b24, h96, am_gd_t, am_lt_e, am_bd_s, bi_0, bi_bz, bz0, bz1, nz2, nz10, nz100, hp_gi, hp_si, ↓reduceIte, if_true, if_false, Bool.true_eq_false, Bool.false_eq_true, eq_self, reduceCtorEq, zo0, zp0_0, zp0_1, zp0_2, zp0_4, zp0_5, zp0_6, zp0_7, zp0_8, zp0_9, zp0_10, zo1, zp1_0, zp1_5, zp1_6, zp1_9, zo16, zp16_0, zp16_5, zp16_6, zp16_9, zo31, zp31_0, zp31_5, zp31_6, zp31_9, zo46, zp46_0, zp46_1, zp46_2, zo79, zp79_0, zo83, zp83_0, zp83_1, zp83_2, zo87, zp87_0, zp87_1, zo121, zp121_0, zp121_1, zp121_2, zp121_4, zp121_5, zp121_6, zp121_7, zp121_8, zp121_16, zp121_17, zp121_18, zp121_21, zp121_23, zp121_24, zp121_25, zp121_26, zp121_27, zp121_28, zp121_29, zp121_30, zp121_31, zp121_32, zp121_33, zp121_34, zp79_2, zx2, zx13, zx14, zx15, zx17, zx28, zx29, zx30, zx32, zx43, zx44, zx45, zx47, zx78, zx80, zx84, zx85, zx86, zx88, zx89, zx90, zx99, zx120, zx122, zx123, zx124, zx125, zx126, zx127, zx128, zx129, zx130, zx131, zx132, zx133, zx134, zx135, zx136, zx137, zx138, zx139, zx140, zx141, zx142, zx143, zx144, zx145, zg2, zg17, zg32, zgo3, zgo18, zgo33, zl47, zlo, zlp, zlx, zs90, zso, zsp, zsx, zt99, zto, ztp1, ztp2, ztgo, ztso, ztsp, ztsx, zc0, zi0, zc1, zi1, zc2, zi2, zc3, zi3, zc4, zi4, zc5, zi5, hX3, hsg, hr1, p1, hlp, u1, hlo, v1, e2t, nI_1]
            exact w1
        | false =>
          rw [hok] at u2
          obtain ⟨X3, v1, v2⟩ := CA_push_f (lp := 48 + 2 * t) (v := -(nI (b s.1.2.1))) ht u2
          rw [if_neg (by decide)]
          refine ⟨X3, ?_, by rw [hok]; exact v2⟩
          by_cases hl2 : l = 2
          · have e2t := e2.trans (eq_true hl2)
            simp only [fxX8_levelF_b24, h96, am_gd_t, am_lt_e, am_bd_s, bi_0, bi_bz, bz0, bz1, nz2, nz10, nz100, hp_gi, hp_si, ↓reduceIte, if_true, if_false, Bool.true_eq_false, Bool.false_eq_true, eq_self, reduceCtorEq, zo0, zp0_0, zp0_1, zp0_2, zp0_4, zp0_5, zp0_6, zp0_7, zp0_8, zp0_9, zp0_10, zo1, zp1_0, zp1_5, zp1_6, zp1_9, zo16, zp16_0, zp16_5, zp16_6, zp16_9, zo31, zp31_0, zp31_5, zp31_6, zp31_9, zo46, zp46_0, zp46_1, zp46_2, zo79, zp79_0, zo83, zp83_0, zp83_1, zp83_2, zo87, zp87_0, zp87_1, zo121, zp121_0, zp121_1, zp121_2, zp121_4, zp121_5, zp121_6, zp121_7, zp121_8, zp121_16, zp121_17, zp121_18, zp121_21, zp121_23, zp121_24, zp121_25, zp121_26, zp121_27, zp121_28, zp121_29, zp121_30, zp121_31, zp121_32, zp121_33, zp121_34, zp79_2, zx2, zx13, zx14, zx15, zx17, zx28, zx29, zx30, zx32, zx43, zx44, zx45, zx47, zx78, zx80, zx84, zx85, zx86, zx88, zx89, zx90, zx99, zx120, zx122, zx123, zx124, zx125, zx126, zx127, zx128, zx129, zx130, zx131, zx132, zx133, zx134, zx135, zx136, zx137, zx138, zx139, zx140, zx141, zx142, zx143, zx144, zx145, zg2, zg17, zg32, zgo3, zgo18, zgo33, zl47, zlo, zlp, zlx, zs90, zso, zsp, zsx, zt99, zto, ztp1, ztp2, ztgo, ztso, ztsp, ztsx, zc0, zi0, zc1, zi1, zc2, zi2, zc3, zi3, zc4, zi4, zc5, zi5, hX3, hsg, hr1, p1, hlp, u1, hlo, v1, e2t]
          · obtain ⟨fuel, rfl⟩ : ∃ f, fuel = f + 1 := ⟨fuel - 1, by omega⟩
            obtain ⟨N3, g3, q3, hX3', -, hg3, -⟩ := CA_f v2 (Or.inl rfl)
            have hend : fxX8_levelF_b24 (fxX8_lp f).1 (fxX8_lp f).2 (fuel + 1) (some 79) (nI l) (nI op) (nI no) (nI (i + 1)) (hp (48 + 2 * t) X3) = some ((), hp (48 + 2 * t) X3) := by
              rw [hX3']; exact b24_f (by rw [hg3]; exact nm1 (by omega)) fuel
            have e2t := e2.trans (eq_false hl2)
            rw [fxX8_levelF_b24]
            simp only [h96, am_gd_t, am_lt_e, am_bd_s, bi_0, bi_bz, bz0, bz1, nz2, nz10, nz100, hp_gi, hp_si, ↓reduceIte, if_true, if_false, Bool.true_eq_false, Bool.false_eq_true, eq_self, reduceCtorEq, zo0, zp0_0, zp0_1, zp0_2, zp0_4, zp0_5, zp0_6, zp0_7, zp0_8, zp0_9, zp0_10, zo1, zp1_0, zp1_5, zp1_6, zp1_9, zo16, zp16_0, zp16_5, zp16_6, zp16_9, zo31, zp31_0, zp31_5, zp31_6, zp31_9, zo46, zp46_0, zp46_1, zp46_2, zo79, zp79_0, zo83, zp83_0, zp83_1, zp83_2, zo87, zp87_0, zp87_1, zo121, zp121_0, zp121_1, zp121_2, zp121_4, zp121_5, zp121_6, zp121_7, zp121_8, zp121_16, zp121_17, zp121_18, zp121_21, zp121_23, zp121_24, zp121_25, zp121_26, zp121_27, zp121_28, zp121_29, zp121_30, zp121_31, zp121_32, zp121_33, zp121_34, zp79_2, zx2, zx13, zx14, zx15, zx17, zx28, zx29, zx30, zx32, zx43, zx44, zx45, zx47, zx78, zx80, zx84, zx85, zx86, zx88, zx89, zx90, zx99, zx120, zx122, zx123, zx124, zx125, zx126, zx127, zx128, zx129, zx130, zx131, zx132, zx133, zx134, zx135, zx136, zx137, zx138, zx139, zx140, zx141, zx142, zx143, zx144, zx145, zg2, zg17, zg32, zgo3, zgo18, zgo33, zl47, zlo, zlp, zlx, zs90, zso, zsp, zsx, zt99, zto, ztp1, ztp2, ztgo, ztso, ztsp, ztsx, zc0, zi0, zc1, zi1, zc2, zi2, zc3, zi3, zc4, zi4, zc5, zi5, hX3, hsg, hr1, p1, hlp, u1, hlo, v1, e2t, nI_1]
            exact hend
      · refine ⟨X, ?_, by unfold dLo; rw [if_neg hc]; exact hCA⟩
        by_cases h3 : s.1.1 = 3
        · have hlt := (hT.2.2.2.1 (by omega)).1
          have hb255 := (hB.2.2 _ hlt).2
          have hshb : sh b s.1 = bs (b s.1.2.1) := by unfold sh; rw [if_pos h3]
          rw [if_pos h3] at hsg
          obtain ⟨r, hr1, hr2⟩ := lvl (v := b s.1.2.1) (l := l) (by omega) hl
          have hr3 : (r = nI l) = False := by rw [hr2, ← hshb]; exact eq_false hc
          simp only [fxX8_levelF_b24, h96, am_gd_t, am_lt_e, am_bd_s, bi_0, bi_bz, bz0, bz1, nz2, nz10, nz100, hp_gi, hp_si, ↓reduceIte, if_true, if_false, Bool.true_eq_false, Bool.false_eq_true, eq_self, reduceCtorEq, zo0, zp0_0, zp0_1, zp0_2, zp0_4, zp0_5, zp0_6, zp0_7, zp0_8, zp0_9, zp0_10, zo1, zp1_0, zp1_5, zp1_6, zp1_9, zo16, zp16_0, zp16_5, zp16_6, zp16_9, zo31, zp31_0, zp31_5, zp31_6, zp31_9, zo46, zp46_0, zp46_1, zp46_2, zo79, zp79_0, zo83, zp83_0, zp83_1, zp83_2, zo87, zp87_0, zp87_1, zo121, zp121_0, zp121_1, zp121_2, zp121_4, zp121_5, zp121_6, zp121_7, zp121_8, zp121_16, zp121_17, zp121_18, zp121_21, zp121_23, zp121_24, zp121_25, zp121_26, zp121_27, zp121_28, zp121_29, zp121_30, zp121_31, zp121_32, zp121_33, zp121_34, zp79_2, zx2, zx13, zx14, zx15, zx17, zx28, zx29, zx30, zx32, zx43, zx44, zx45, zx47, zx78, zx80, zx84, zx85, zx86, zx88, zx89, zx90, zx99, zx120, zx122, zx123, zx124, zx125, zx126, zx127, zx128, zx129, zx130, zx131, zx132, zx133, zx134, zx135, zx136, zx137, zx138, zx139, zx140, zx141, zx142, zx143, zx144, zx145, zg2, zg17, zg32, zgo3, zgo18, zgo33, zl47, zlo, zlp, zlx, zs90, zso, zsp, zsx, zt99, zto, ztp1, ztp2, ztgo, ztso, ztsp, ztsx, zc0, zi0, zc1, zi1, zc2, zi2, zc3, zi3, zc4, zi4, zc5, zi5, hX3, hsg, hr1, hr3]
        · rw [if_neg h3] at hsg
          have hm : ∀ h, fxX8_levelOf (-1) h = some (-1, h) := fun h => rfl
          simp only [fxX8_levelF_b24, h96, am_gd_t, am_lt_e, am_bd_s, bi_0, bi_bz, bz0, bz1, nz2, nz10, nz100, hp_gi, hp_si, ↓reduceIte, if_true, if_false, Bool.true_eq_false, Bool.false_eq_true, eq_self, reduceCtorEq, zo0, zp0_0, zp0_1, zp0_2, zp0_4, zp0_5, zp0_6, zp0_7, zp0_8, zp0_9, zp0_10, zo1, zp1_0, zp1_5, zp1_6, zp1_9, zo16, zp16_0, zp16_5, zp16_6, zp16_9, zo31, zp31_0, zp31_5, zp31_6, zp31_9, zo46, zp46_0, zp46_1, zp46_2, zo79, zp79_0, zo83, zp83_0, zp83_1, zp83_2, zo87, zp87_0, zp87_1, zo121, zp121_0, zp121_1, zp121_2, zp121_4, zp121_5, zp121_6, zp121_7, zp121_8, zp121_16, zp121_17, zp121_18, zp121_21, zp121_23, zp121_24, zp121_25, zp121_26, zp121_27, zp121_28, zp121_29, zp121_30, zp121_31, zp121_32, zp121_33, zp121_34, zp79_2, zx2, zx13, zx14, zx15, zx17, zx28, zx29, zx30, zx32, zx43, zx44, zx45, zx47, zx78, zx80, zx84, zx85, zx86, zx88, zx89, zx90, zx99, zx120, zx122, zx123, zx124, zx125, zx126, zx127, zx128, zx129, zx130, zx131, zx132, zx133, zx134, zx135, zx136, zx137, zx138, zx139, zx140, zx141, zx142, zx143, zx144, zx145, zg2, zg17, zg32, zgo3, zgo18, zgo33, zl47, zlo, zlp, zlx, zs90, zso, zsp, zsx, zt99, zto, ztp1, ztp2, ztgo, ztso, ztsp, ztsx, zc0, zi0, zc1, zi1, zc2, zi2, zc3, zi3, zc4, zi4, zc5, zi5, hX3, hsg, hm, m1_nI (show l < 1000000 by omega)]
