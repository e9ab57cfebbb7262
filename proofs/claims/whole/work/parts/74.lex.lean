/-! ===== words and signs on the tape ===== -/
def so (b : Nat → Nat) (n i : Nat) : Nat := if i < n then (if 97 ≤ b i ∧ b i ≤ 122 then 1 else if 48 ≤ b i ∧ b i ≤ 57 then 2 else 3) else 0
def skB (b : Nat → Nat) (n : Nat) : Nat → Nat → Nat
  | 0, i => i
  | k + 1, i => if i < n ∧ b i = 32 then skB b n k (i + 1) else i
def exB (b : Nat → Nat) (n s : Nat) : Nat → Nat → Nat
  | 0, i => i
  | k + 1, i => if i < n ∧ so b n i = s then exB b n s k (i + 1) else i
def stT (b : Nat → Nat) (n e : Nat) : Nat := skB b n (n - e) e
def enT (b : Nat → Nat) (n st : Nat) : Nat := if so b n st = 3 then st + 1 else exB b n (so b n st) (n - st) st
def bdT (b : Nat → Nat) (n s e : Nat) : Prop := ((s = 1 ∨ s = 2) ∧ stT b n e = e ∧ (so b n (stT b n e) = 1 ∨ so b n (stT b n e) = 2)) ∨ (so b n (stT b n e) = 2 ∧ 4 < enT b n (stT b n e) - stT b n e)
/-- a word or sign: its sort (4: it can't stand there), its first byte, the place behind it -/
abbrev Tk : Type := Nat × Nat × Nat
noncomputable def nx (b : Nat → Nat) (n : Nat) (T : Tk) : Tk := by
  classical
  exact (if bdT b n T.1 T.2.2 then 4 else so b n (stT b n T.2.2), stT b n T.2.2, enT b n (stT b n T.2.2))
theorem so_le (b : Nat → Nat) (n i : Nat) : so b n i ≤ 3 := by
  unfold so
  repeat' split
  all_goals omega
theorem so_0 {b : Nat → Nat} {n i : Nat} : so b n i = 0 ↔ n ≤ i := by
  unfold so
  constructor
  · intro h
    by_cases q : i < n
    · rw [if_pos q] at h
      repeat' split at h
      all_goals omega
    · omega
  · intro h
    rw [if_neg (by omega)]
theorem sk_ge {b : Nat → Nat} {n : Nat} : ∀ k i, i ≤ skB b n k i := by
  intro k
  induction k with
  | zero => intro i; exact Nat.le_refl _
  | succ k ih =>
    intro i
    unfold skB
    split
    · exact Nat.le_trans (Nat.le_succ i) (ih (i + 1))
    · exact Nat.le_refl _
theorem sk_le {b : Nat → Nat} {n : Nat} : ∀ k i, i ≤ n → skB b n k i ≤ n := by
  intro k
  induction k with
  | zero => intro i h; exact h
  | succ k ih =>
    intro i h
    unfold skB
    split
    · exact ih (i + 1) (by omega)
    · exact h
theorem ex_ge {b : Nat → Nat} {n s : Nat} : ∀ k i, i ≤ exB b n s k i := by
  intro k
  induction k with
  | zero => intro i; exact Nat.le_refl _
  | succ k ih =>
    intro i
    unfold exB
    split
    · exact Nat.le_trans (Nat.le_succ i) (ih (i + 1))
    · exact Nat.le_refl _
theorem ex_le {b : Nat → Nat} {n s : Nat} : ∀ k i, i ≤ n → exB b n s k i ≤ n := by
  intro k
  induction k with
  | zero => intro i h; exact h
  | succ k ih =>
    intro i h
    unfold exB
    split
    · exact ih (i + 1) (by omega)
    · exact h
theorem ex_all {b : Nat → Nat} {n s : Nat} : ∀ k i j, i ≤ j → j < exB b n s k i → so b n j = s := by
  intro k
  induction k with
  | zero => intro i j h1 h2; exact absurd h2 (Nat.not_lt.mpr h1)
  | succ k ih =>
    intro i j h1 h2
    unfold exB at h2
    split at h2
    · next q =>
      by_cases e : j = i
      · rw [e]; exact q.2
      · exact ih (i + 1) j (by omega) h2
    · omega
theorem st_ge {b : Nat → Nat} {n e : Nat} : e ≤ stT b n e := sk_ge _ _
theorem st_le {b : Nat → Nat} {n e : Nat} (h : e ≤ n) : stT b n e ≤ n := sk_le _ _ h
theorem en_ge {b : Nat → Nat} {n st : Nat} : st ≤ enT b n st := by
  unfold enT
  split
  · omega
  · exact ex_ge _ _
theorem en_le {b : Nat → Nat} {n st : Nat} (h : st ≤ n) : enT b n st ≤ n := by
  unfold enT
  split
  · next q =>
    have : st < n := Classical.byContradiction fun x => by rw [so_0.mpr (by omega)] at q; cases q
    omega
  · exact ex_le _ _ h
theorem en_gt {b : Nat → Nat} {n st : Nat} (h : st < n) : st < enT b n st := by
  unfold enT
  split
  · omega
  · obtain ⟨k, hk⟩ : ∃ k, n - st = k + 1 := ⟨n - st - 1, by omega⟩
    rw [hk]
    unfold exB
    rw [if_pos ⟨h, rfl⟩]
    exact ex_ge _ _
/-- what comes next, in short -/
theorem nx_st (b : Nat → Nat) (n : Nat) (T : Tk) : (nx b n T).2.1 = stT b n T.2.2 := rfl
theorem nx_en (b : Nat → Nat) (n : Nat) (T : Tk) : (nx b n T).2.2 = enT b n (stT b n T.2.2) := rfl
theorem nx_b {b : Nat → Nat} {n : Nat} {T : Tk} (h : bdT b n T.1 T.2.2) : (nx b n T).1 = 4 := by
  unfold nx
  exact if_pos h
theorem nx_s {b : Nat → Nat} {n : Nat} {T : Tk} (h : ¬ bdT b n T.1 T.2.2) : (nx b n T).1 = so b n (stT b n T.2.2) := by
  unfold nx
  exact if_neg h
/-- a token as it stands on the tape -/
def TkOk (b : Nat → Nat) (n : Nat) (T : Tk) : Prop := T.2.1 ≤ T.2.2 ∧ T.2.2 ≤ n ∧ (T.1 = 0 → T.2.1 = n) ∧ (T.1 ≠ 0 → T.2.1 < n ∧ T.2.1 < T.2.2) ∧ T.1 ≤ 4 ∧ (T.1 ≠ 4 → T.1 = so b n T.2.1) ∧ (T.1 = 1 → ∀ j, T.2.1 ≤ j → j < T.2.2 → 97 ≤ b j ∧ b j ≤ 122) ∧ (T.1 = 2 → T.2.2 - T.2.1 ≤ 4 ∧ ∀ j, T.2.1 ≤ j → j < T.2.2 → 48 ≤ b j ∧ b j ≤ 57) ∧ (T.1 = 3 → T.2.2 = T.2.1 + 1)
theorem so_1 {b : Nat → Nat} {n i : Nat} (h : so b n i = 1) : 97 ≤ b i ∧ b i ≤ 122 := by
  unfold so at h
  repeat' split at h
  all_goals first | assumption | omega
theorem so_2 {b : Nat → Nat} {n i : Nat} (h : so b n i = 2) : 48 ≤ b i ∧ b i ≤ 57 := by
  unfold so at h
  repeat' split at h
  all_goals first | assumption | omega
theorem nx_ok {b : Nat → Nat} {n : Nat} {T : Tk} (h : T.2.2 ≤ n) : TkOk b n (nx b n T) ∧ T.2.2 ≤ (nx b n T).2.1 := by
  have h1 : stT b n T.2.2 ≤ n := st_le h
  have h2 : T.2.2 ≤ stT b n T.2.2 := st_ge
  have h3 : stT b n T.2.2 ≤ enT b n (stT b n T.2.2) := en_ge
  have h4 : enT b n (stT b n T.2.2) ≤ n := en_le h1
  have hs := so_le b n (stT b n T.2.2)
  refine ⟨?_, h2⟩
  unfold TkOk
  rw [nx_st, nx_en]
  by_cases hb : bdT b n T.1 T.2.2
  · have hlt : stT b n T.2.2 < n := by
      rcases Nat.lt_or_ge (stT b n T.2.2) n with q | q
      · exact q
      · have := so_0 (b := b).mpr q
        unfold bdT at hb
        omega
    rw [nx_b hb]
    exact ⟨h3, h4, fun q => by omega, fun _ => ⟨hlt, en_gt hlt⟩, by omega, fun q => absurd rfl q, fun q => by omega, fun q => by omega, fun q => by omega⟩
  · rw [nx_s hb]
    have hex : so b n (stT b n T.2.2) ≠ 3 → enT b n (stT b n T.2.2) = exB b n (so b n (stT b n T.2.2)) (n - stT b n T.2.2) (stT b n T.2.2) := fun q => by unfold enT; rw [if_neg q]
    refine ⟨h3, h4, fun q => ?_, fun q => ?_, by omega, fun _ => rfl, fun q j j1 j2 => ?_, fun q => ⟨?_, fun j j1 j2 => ?_⟩, fun q => ?_⟩
    · have := so_0.mp q; omega
    · have hlt : stT b n T.2.2 < n := by
        rcases Nat.lt_or_ge (stT b n T.2.2) n with x | x
        · exact x
        · exact absurd (so_0.mpr x) q
      exact ⟨hlt, en_gt hlt⟩
    · rw [hex (by omega), q] at j2
      exact so_1 (ex_all _ _ j j1 j2)
    · rcases Nat.lt_or_ge 4 (enT b n (stT b n T.2.2) - stT b n T.2.2) with x | x
      · exact absurd (Or.inr ⟨q, x⟩) hb
      · exact x
    · rw [hex (by omega), q] at j2
      exact so_2 (ex_all _ _ j j1 j2)
    · unfold enT; rw [if_pos q]
/-- the number in a row of digits -/
def dv (b : Nat → Nat) (st : Nat) : Nat → Nat
  | 0 => 0
  | k + 1 => 10 * dv b st k + (b (st + k) - 48)
theorem dv_le {b : Nat → Nat} {st : Nat} : ∀ k, (∀ j, st ≤ j → j < st + k → b j ≤ 57) → dv b st k < 10 ^ k := by
  intro k
  induction k with
  | zero => intro _; exact (by decide : 0 < 1)
  | succ k ih =>
    intro h
    have h1 := ih (fun j j1 j2 => h j j1 (by omega))
    have h2 := h (st + k) (by omega) (by omega)
    unfold dv
    rw [Nat.pow_succ]
    omega
theorem dv_4 {b : Nat → Nat} {st k : Nat} (hk : k ≤ 4) (h : ∀ j, st ≤ j → j < st + k → b j ≤ 57) : dv b st k ≤ 9999 := by
  have h1 := dv_le k h
  have h2 : 10 ^ k ≤ 10 ^ 4 := Nat.pow_le_pow_right (by decide) hk
  omega
/-! the class's tape: what it reads with -/
def tr (r : Nat → Int32) (f s st e : Int32) (j : Nat) : Int32 := if j = 3 then f else if j = 4 then s else if j = 5 then st else if j = 6 then e else r j
def TM (M : Mem) (f s st e : Int32) (k j : Nat) : Int32 := if k = 79 then tr (M 79) f s st e j else M k j
theorem tm_u3 (M : Mem) (f s st e v : Int32) : am_up (TM M f s st e) 79 3 v = TM M v s st e := by
  funext a c
  unfold am_up
  by_cases ha : a = 79
  · subst ha
    unfold TM tr
    by_cases hc : c = 3
    · subst hc; rfl
    · simp [hc]
  · unfold TM
    simp [ha]
theorem tm_u4 (M : Mem) (f s st e v : Int32) : am_up (TM M f s st e) 79 4 v = TM M f v st e := by
  funext a c
  unfold am_up
  by_cases ha : a = 79
  · subst ha
    unfold TM tr
    by_cases hc : c = 4
    · subst hc; rfl
    · simp [hc]
  · unfold TM
    simp [ha]
theorem tm_u5 (M : Mem) (f s st e v : Int32) : am_up (TM M f s st e) 79 5 v = TM M f s v e := by
  funext a c
  unfold am_up
  by_cases ha : a = 79
  · subst ha
    unfold TM tr
    by_cases hc : c = 5
    · subst hc; rfl
    · simp [hc]
  · unfold TM
    simp [ha]
theorem tm_u6 (M : Mem) (f s st e v : Int32) : am_up (TM M f s st e) 79 6 v = TM M f s st v := by
  funext a c
  unfold am_up
  by_cases ha : a = 79
  · subst ha
    unfold TM tr
    by_cases hc : c = 6
    · subst hc; rfl
    · simp [hc]
  · unfold TM
    simp [ha]
theorem tm_ou {M : Mem} {f s st e v : Int32} {k j : Nat} (h : k ≠ 79) : am_up (TM M f s st e) k j v = TM (am_up M k j v) f s st e := by
  funext a c
  by_cases ha : a = 79
  · subst ha
    unfold TM
    rw [if_pos rfl, am_up_ne (Ne.symm h), am_up_ne (Ne.symm h), if_pos rfl]
  · unfold TM
    rw [if_neg ha]
    unfold am_up
    simp [ha]
theorem tm_1 (M : Mem) (f s st e : Int32) : TM M f s st e 79 1 = M 79 1 := Eq.trans rfl rfl
theorem tm_3 (M : Mem) (f s st e : Int32) : TM M f s st e 79 3 = f := Eq.trans rfl rfl
theorem tm_4 (M : Mem) (f s st e : Int32) : TM M f s st e 79 4 = s := Eq.trans rfl rfl
theorem tm_5 (M : Mem) (f s st e : Int32) : TM M f s st e 79 5 = st := Eq.trans rfl rfl
theorem tm_6 (M : Mem) (f s st e : Int32) : TM M f s st e 79 6 = e := Eq.trans rfl rfl
theorem tm_80 (M : Mem) (f s st e : Int32) : TM M f s st e 80 = M 80 := Eq.trans rfl rfl
theorem tm_o {M : Mem} {f s st e : Int32} {k : Nat} (h : k ≠ 79) : TM M f s st e k = M k := by
  funext c
  unfold TM; rw [if_neg h]
/-- the bytes -/
def TpC (M : Mem) (b : Nat → Nat) (n : Nat) : Prop := n ≤ 96 ∧ M 79 1 = nI n ∧ ∀ i, i < n → M 80 i = nI (b i) ∧ b i ≤ 255
theorem q_sortAt {lp n i : Nat} {b : Nat → Nat} {M : Mem} {f s st e : Int32} (hB : TpC M b n) (hi : i ≤ 96) : fxX8_sortAt (some 79) (nI i) (hp lp (TM M f s st e)) = some (nI (so b n i), hp lp (TM M f s st e)) := by
  obtain ⟨hn, h1, h2⟩ := hB
  unfold so
  by_cases hin : i < n
  · obtain ⟨e1, e2⟩ := h2 i hin
    have c1 : (nI (b i) < (97 : Int32)) = (b i < 97) := propext (nI_ltI (b := 97) (by omega) (by decide))
    have c2 : ((122 : Int32) < nI (b i)) = (122 < b i) := propext (nI_ltI (a := 122) (by decide) (by omega))
    have c3 : (nI (b i) < (48 : Int32)) = (b i < 48) := propext (nI_ltI (b := 48) (by omega) (by decide))
    have c4 : ((57 : Int32) < nI (b i)) = (57 < b i) := propext (nI_ltI (a := 57) (by decide) (by omega))
    rw [if_pos hin]
    simp (disch := omega) only [fxX8_sortAt, fxX8_sortAt_b35, nlt0, zlt, am_gd_t, am_lt_e, am_bd_s, bi_0, bi_bz, bz0, bz1, nz2, nz10, nz100, hp_gi, hp_si, ↓reduceIte, if_true, if_false, Bool.true_eq_false, Bool.false_eq_true, eq_self, reduceCtorEq, zo0, zp0_0, zp0_1, zp0_2, zp0_4, zp0_5, zp0_6, zp0_7, zp0_8, zp0_9, zp0_10, zo1, zp1_0, zp1_5, zp1_6, zp1_9, zo16, zp16_0, zp16_5, zp16_6, zp16_9, zo31, zp31_0, zp31_5, zp31_6, zp31_9, zo46, zp46_0, zp46_1, zp46_2, zo79, zp79_0, zo83, zp83_0, zp83_1, zp83_2, zo87, zp87_0, zp87_1, zo121, zp121_0, zp121_1, zp121_2, zp121_4, zp121_5, zp121_6, zp121_7, zp121_8, zp121_16, zp121_17, zp121_18, zp121_21, zp121_23, zp121_24, zp121_25, zp121_26, zp121_27, zp121_28, zp121_29, zp121_30, zp121_31, zp121_32, zp121_33, zp121_34, zp79_2, zx2, zx13, zx14, zx15, zx17, zx28, zx29, zx30, zx32, zx43, zx44, zx45, zx47, zx78, zx80, zx84, zx85, zx86, zx88, zx89, zx90, zx99, zx120, zx122, zx123, zx124, zx125, zx126, zx127, zx128, zx129, zx130, zx131, zx132, zx133, zx134, zx135, zx136, zx137, zx138, zx139, zx140, zx141, zx142, zx143, zx144, zx145, zg2, zg17, zg32, zgo3, zgo18, zgo33, zl47, zlo, zlp, zlx, zs90, zso, zsp, zsx, zt99, zto, ztp1, ztp2, ztgo, ztso, ztsp, ztsx, zc0, zi0, zc1, zi1, zc2, zi2, zc3, zi3, zc4, zi4, zc5, zi5, zin, zcl, nI_1, Bool.and_self, Bool.true_and, Bool.and_true, tm_1, tm_80, h1, e1, c1, c2, c3, c4]
    repeat' split
    all_goals first | rfl | omega
  · rw [if_neg hin]
    simp (disch := omega) only [fxX8_sortAt, nlt0, zlt', am_gd_t, am_lt_e, am_bd_s, bi_0, bi_bz, bz0, bz1, nz2, nz10, nz100, hp_gi, hp_si, ↓reduceIte, if_true, if_false, Bool.true_eq_false, Bool.false_eq_true, eq_self, reduceCtorEq, zo0, zp0_0, zp0_1, zp0_2, zp0_4, zp0_5, zp0_6, zp0_7, zp0_8, zp0_9, zp0_10, zo1, zp1_0, zp1_5, zp1_6, zp1_9, zo16, zp16_0, zp16_5, zp16_6, zp16_9, zo31, zp31_0, zp31_5, zp31_6, zp31_9, zo46, zp46_0, zp46_1, zp46_2, zo79, zp79_0, zo83, zp83_0, zp83_1, zp83_2, zo87, zp87_0, zp87_1, zo121, zp121_0, zp121_1, zp121_2, zp121_4, zp121_5, zp121_6, zp121_7, zp121_8, zp121_16, zp121_17, zp121_18, zp121_21, zp121_23, zp121_24, zp121_25, zp121_26, zp121_27, zp121_28, zp121_29, zp121_30, zp121_31, zp121_32, zp121_33, zp121_34, zp79_2, zx2, zx13, zx14, zx15, zx17, zx28, zx29, zx30, zx32, zx43, zx44, zx45, zx47, zx78, zx80, zx84, zx85, zx86, zx88, zx89, zx90, zx99, zx120, zx122, zx123, zx124, zx125, zx126, zx127, zx128, zx129, zx130, zx131, zx132, zx133, zx134, zx135, zx136, zx137, zx138, zx139, zx140, zx141, zx142, zx143, zx144, zx145, zg2, zg17, zg32, zgo3, zgo18, zgo33, zl47, zlo, zlp, zlx, zs90, zso, zsp, zsx, zt99, zto, ztp1, ztp2, ztgo, ztso, ztsp, ztsx, zc0, zi0, zc1, zi1, zc2, zi2, zc3, zi3, zc4, zi4, zc5, zi5, tm_1, h1]
    rfl
theorem next_sk {lp n : Nat} {b : Nat → Nat} {M : Mem} {f s e w fr : Int32} (hB : TpC M b n) : ∀ k i fuel, n ≤ i + k → i ≤ n → k < fuel → fxX8_next_b41 fuel (some 79) w fr (hp lp (TM M f s (nI i) e)) = fxX8_next_b79 (some 79) w fr (hp lp (TM M f s (nI (skB b n k i)) e)) := by
  obtain ⟨hn, h1, h2⟩ := hB
  intro k
  induction k with
  | zero =>
    intro i fuel h3 h4 hf
    obtain ⟨fuel, rfl⟩ : ∃ f, fuel = f + 1 := ⟨fuel - 1, by omega⟩
    obtain rfl : i = n := by omega
    simp (disch := omega) only [fxX8_next_b41, am_gd_t, am_lt_e, am_bd_s, bi_0, bi_bz, bz0, bz1, nz2, nz10, nz100, hp_gi, hp_si, ↓reduceIte, if_true, if_false, Bool.true_eq_false, Bool.false_eq_true, eq_self, reduceCtorEq, zo0, zp0_0, zp0_1, zp0_2, zp0_4, zp0_5, zp0_6, zp0_7, zp0_8, zp0_9, zp0_10, zo1, zp1_0, zp1_5, zp1_6, zp1_9, zo16, zp16_0, zp16_5, zp16_6, zp16_9, zo31, zp31_0, zp31_5, zp31_6, zp31_9, zo46, zp46_0, zp46_1, zp46_2, zo79, zp79_0, zo83, zp83_0, zp83_1, zp83_2, zo87, zp87_0, zp87_1, zo121, zp121_0, zp121_1, zp121_2, zp121_4, zp121_5, zp121_6, zp121_7, zp121_8, zp121_16, zp121_17, zp121_18, zp121_21, zp121_23, zp121_24, zp121_25, zp121_26, zp121_27, zp121_28, zp121_29, zp121_30, zp121_31, zp121_32, zp121_33, zp121_34, zp79_2, zx2, zx13, zx14, zx15, zx17, zx28, zx29, zx30, zx32, zx43, zx44, zx45, zx47, zx78, zx80, zx84, zx85, zx86, zx88, zx89, zx90, zx99, zx120, zx122, zx123, zx124, zx125, zx126, zx127, zx128, zx129, zx130, zx131, zx132, zx133, zx134, zx135, zx136, zx137, zx138, zx139, zx140, zx141, zx142, zx143, zx144, zx145, zg2, zg17, zg32, zgo3, zgo18, zgo33, zl47, zlo, zlp, zlx, zs90, zso, zsp, zsx, zt99, zto, ztp1, ztp2, ztgo, ztso, ztsp, ztsx, zc0, zi0, zc1, zi1, zc2, zi2, zc3, zi3, zc4, zi4, zc5, zi5, tm_1, tm_5, h1, zle', skB]
  | succ k ih =>
    intro i fuel h3 h4 hf
    obtain ⟨fuel, rfl⟩ : ∃ f, fuel = f + 1 := ⟨fuel - 1, by omega⟩
    unfold skB
    by_cases hin : i < n
    · obtain ⟨e1, e2⟩ := h2 i hin
      have c1 : (nI (b i) = (32 : Int32)) = (b i = 32) := propext (nI_eq (b := 32) (by omega) (by decide))
      by_cases h32 : b i = 32
      · rw [if_pos ⟨hin, h32⟩, ← ih (i + 1) fuel (by omega) (by omega) (by omega)]
        simp (disch := omega) only [fxX8_next_b41, am_gd_t, am_lt_e, am_bd_s, bi_0, bi_bz, bz0, bz1, nz2, nz10, nz100, hp_gi, hp_si, ↓reduceIte, if_true, if_false, Bool.true_eq_false, Bool.false_eq_true, eq_self, reduceCtorEq, zo0, zp0_0, zp0_1, zp0_2, zp0_4, zp0_5, zp0_6, zp0_7, zp0_8, zp0_9, zp0_10, zo1, zp1_0, zp1_5, zp1_6, zp1_9, zo16, zp16_0, zp16_5, zp16_6, zp16_9, zo31, zp31_0, zp31_5, zp31_6, zp31_9, zo46, zp46_0, zp46_1, zp46_2, zo79, zp79_0, zo83, zp83_0, zp83_1, zp83_2, zo87, zp87_0, zp87_1, zo121, zp121_0, zp121_1, zp121_2, zp121_4, zp121_5, zp121_6, zp121_7, zp121_8, zp121_16, zp121_17, zp121_18, zp121_21, zp121_23, zp121_24, zp121_25, zp121_26, zp121_27, zp121_28, zp121_29, zp121_30, zp121_31, zp121_32, zp121_33, zp121_34, zp79_2, zx2, zx13, zx14, zx15, zx17, zx28, zx29, zx30, zx32, zx43, zx44, zx45, zx47, zx78, zx80, zx84, zx85, zx86, zx88, zx89, zx90, zx99, zx120, zx122, zx123, zx124, zx125, zx126, zx127, zx128, zx129, zx130, zx131, zx132, zx133, zx134, zx135, zx136, zx137, zx138, zx139, zx140, zx141, zx142, zx143, zx144, zx145, zg2, zg17, zg32, zgo3, zgo18, zgo33, zl47, zlo, zlp, zlx, zs90, zso, zsp, zsx, zt99, zto, ztp1, ztp2, ztgo, ztso, ztsp, ztsx, zc0, zi0, zc1, zi1, zc2, zi2, zc3, zi3, zc4, zi4, zc5, zi5, zin, zcl, nI_1, Bool.and_self, Bool.true_and, Bool.and_true, tm_1, tm_5, tm_80, tm_u5, h1, zle, e1, h32, show (nI 32 = (32 : Int32)) = True from by decide]
      · rw [if_neg (fun q => h32 q.2)]
        simp (disch := omega) only [fxX8_next_b41, am_gd_t, am_lt_e, am_bd_s, bi_0, bi_bz, bz0, bz1, nz2, nz10, nz100, hp_gi, hp_si, ↓reduceIte, if_true, if_false, Bool.true_eq_false, Bool.false_eq_true, eq_self, reduceCtorEq, zo0, zp0_0, zp0_1, zp0_2, zp0_4, zp0_5, zp0_6, zp0_7, zp0_8, zp0_9, zp0_10, zo1, zp1_0, zp1_5, zp1_6, zp1_9, zo16, zp16_0, zp16_5, zp16_6, zp16_9, zo31, zp31_0, zp31_5, zp31_6, zp31_9, zo46, zp46_0, zp46_1, zp46_2, zo79, zp79_0, zo83, zp83_0, zp83_1, zp83_2, zo87, zp87_0, zp87_1, zo121, zp121_0, zp121_1, zp121_2, zp121_4, zp121_5, zp121_6, zp121_7, zp121_8, zp121_16, zp121_17, zp121_18, zp121_21, zp121_23, zp121_24, zp121_25, zp121_26, zp121_27, zp121_28, zp121_29, zp121_30, zp121_31, zp121_32, zp121_33, zp121_34, zp79_2, zx2, zx13, zx14, zx15, zx17, zx28, zx29, zx30, zx32, zx43, zx44, zx45, zx47, zx78, zx80, zx84, zx85, zx86, zx88, zx89, zx90, zx99, zx120, zx122, zx123, zx124, zx125, zx126, zx127, zx128, zx129, zx130, zx131, zx132, zx133, zx134, zx135, zx136, zx137, zx138, zx139, zx140, zx141, zx142, zx143, zx144, zx145, zg2, zg17, zg32, zgo3, zgo18, zgo33, zl47, zlo, zlp, zlx, zs90, zso, zsp, zsx, zt99, zto, ztp1, ztp2, ztgo, ztso, ztsp, ztsx, zc0, zi0, zc1, zi1, zc2, zi2, zc3, zi3, zc4, zi4, zc5, zi5, zin, zcl, nI_1, Bool.and_self, Bool.true_and, Bool.and_true, tm_1, tm_5, tm_80, h1, zle, e1, c1, h32]
    · rw [if_neg (fun q => hin q.1)]
      simp (disch := omega) only [fxX8_next_b41, am_gd_t, am_lt_e, am_bd_s, bi_0, bi_bz, bz0, bz1, nz2, nz10, nz100, hp_gi, hp_si, ↓reduceIte, if_true, if_false, Bool.true_eq_false, Bool.false_eq_true, eq_self, reduceCtorEq, zo0, zp0_0, zp0_1, zp0_2, zp0_4, zp0_5, zp0_6, zp0_7, zp0_8, zp0_9, zp0_10, zo1, zp1_0, zp1_5, zp1_6, zp1_9, zo16, zp16_0, zp16_5, zp16_6, zp16_9, zo31, zp31_0, zp31_5, zp31_6, zp31_9, zo46, zp46_0, zp46_1, zp46_2, zo79, zp79_0, zo83, zp83_0, zp83_1, zp83_2, zo87, zp87_0, zp87_1, zo121, zp121_0, zp121_1, zp121_2, zp121_4, zp121_5, zp121_6, zp121_7, zp121_8, zp121_16, zp121_17, zp121_18, zp121_21, zp121_23, zp121_24, zp121_25, zp121_26, zp121_27, zp121_28, zp121_29, zp121_30, zp121_31, zp121_32, zp121_33, zp121_34, zp79_2, zx2, zx13, zx14, zx15, zx17, zx28, zx29, zx30, zx32, zx43, zx44, zx45, zx47, zx78, zx80, zx84, zx85, zx86, zx88, zx89, zx90, zx99, zx120, zx122, zx123, zx124, zx125, zx126, zx127, zx128, zx129, zx130, zx131, zx132, zx133, zx134, zx135, zx136, zx137, zx138, zx139, zx140, zx141, zx142, zx143, zx144, zx145, zg2, zg17, zg32, zgo3, zgo18, zgo33, zl47, zlo, zlp, zlx, zs90, zso, zsp, zsx, zt99, zto, ztp1, ztp2, ztgo, ztso, ztsp, ztsx, zc0, zi0, zc1, zi1, zc2, zi2, zc3, zi3, zc4, zi4, zc5, zi5, tm_1, tm_5, h1, zle']
theorem next_ex {lp n s : Nat} {b : Nat → Nat} {M : Mem} {f st w fr : Int32} (hB : TpC M b n) (hs : s ≤ 3) : ∀ k i fuel, n ≤ i + k → i ≤ n → k < fuel → fxX8_next_b120 fuel (some 79) w fr (hp lp (TM M f (nI s) st (nI i))) = fxX8_next_b159 (some 79) w fr (hp lp (TM M f (nI s) st (nI (exB b n s k i)))) := by
  have hn := hB.1
  have h1 := hB.2.1
  intro k
  induction k with
  | zero =>
    intro i fuel h3 h4 hf
    obtain ⟨fuel, rfl⟩ : ∃ f, fuel = f + 1 := ⟨fuel - 1, by omega⟩
    obtain rfl : i = n := by omega
    simp (disch := omega) only [fxX8_next_b120, am_gd_t, am_lt_e, am_bd_s, bi_0, bi_bz, bz0, bz1, nz2, nz10, nz100, hp_gi, hp_si, ↓reduceIte, if_true, if_false, Bool.true_eq_false, Bool.false_eq_true, eq_self, reduceCtorEq, zo0, zp0_0, zp0_1, zp0_2, zp0_4, zp0_5, zp0_6, zp0_7, zp0_8, zp0_9, zp0_10, zo1, zp1_0, zp1_5, zp1_6, zp1_9, zo16, zp16_0, zp16_5, zp16_6, zp16_9, zo31, zp31_0, zp31_5, zp31_6, zp31_9, zo46, zp46_0, zp46_1, zp46_2, zo79, zp79_0, zo83, zp83_0, zp83_1, zp83_2, zo87, zp87_0, zp87_1, zo121, zp121_0, zp121_1, zp121_2, zp121_4, zp121_5, zp121_6, zp121_7, zp121_8, zp121_16, zp121_17, zp121_18, zp121_21, zp121_23, zp121_24, zp121_25, zp121_26, zp121_27, zp121_28, zp121_29, zp121_30, zp121_31, zp121_32, zp121_33, zp121_34, zp79_2, zx2, zx13, zx14, zx15, zx17, zx28, zx29, zx30, zx32, zx43, zx44, zx45, zx47, zx78, zx80, zx84, zx85, zx86, zx88, zx89, zx90, zx99, zx120, zx122, zx123, zx124, zx125, zx126, zx127, zx128, zx129, zx130, zx131, zx132, zx133, zx134, zx135, zx136, zx137, zx138, zx139, zx140, zx141, zx142, zx143, zx144, zx145, zg2, zg17, zg32, zgo3, zgo18, zgo33, zl47, zlo, zlp, zlx, zs90, zso, zsp, zsx, zt99, zto, ztp1, ztp2, ztgo, ztso, ztsp, ztsx, zc0, zi0, zc1, zi1, zc2, zi2, zc3, zi3, zc4, zi4, zc5, zi5, tm_1, tm_6, h1, zle', exB]
  | succ k ih =>
    intro i fuel h3 h4 hf
    obtain ⟨fuel, rfl⟩ : ∃ f, fuel = f + 1 := ⟨fuel - 1, by omega⟩
    unfold exB
    by_cases hin : i < n
    · have hso := q_sortAt (lp := lp) (f := f) (s := nI s) (st := st) (e := nI i) hB (show i ≤ 96 by omega)
      have hsl := so_le b n i
      have c1 : (nI (so b n i) = nI s) = (so b n i = s) := propext (nI_eq (by omega) (by omega))
      by_cases h32 : so b n i = s
      · rw [if_pos ⟨hin, h32⟩, ← ih (i + 1) fuel (by omega) (by omega) (by omega)]
        simp (disch := omega) only [fxX8_next_b120, am_gd_t, am_lt_e, am_bd_s, bi_0, bi_bz, bz0, bz1, nz2, nz10, nz100, hp_gi, hp_si, ↓reduceIte, if_true, if_false, Bool.true_eq_false, Bool.false_eq_true, eq_self, reduceCtorEq, zo0, zp0_0, zp0_1, zp0_2, zp0_4, zp0_5, zp0_6, zp0_7, zp0_8, zp0_9, zp0_10, zo1, zp1_0, zp1_5, zp1_6, zp1_9, zo16, zp16_0, zp16_5, zp16_6, zp16_9, zo31, zp31_0, zp31_5, zp31_6, zp31_9, zo46, zp46_0, zp46_1, zp46_2, zo79, zp79_0, zo83, zp83_0, zp83_1, zp83_2, zo87, zp87_0, zp87_1, zo121, zp121_0, zp121_1, zp121_2, zp121_4, zp121_5, zp121_6, zp121_7, zp121_8, zp121_16, zp121_17, zp121_18, zp121_21, zp121_23, zp121_24, zp121_25, zp121_26, zp121_27, zp121_28, zp121_29, zp121_30, zp121_31, zp121_32, zp121_33, zp121_34, zp79_2, zx2, zx13, zx14, zx15, zx17, zx28, zx29, zx30, zx32, zx43, zx44, zx45, zx47, zx78, zx80, zx84, zx85, zx86, zx88, zx89, zx90, zx99, zx120, zx122, zx123, zx124, zx125, zx126, zx127, zx128, zx129, zx130, zx131, zx132, zx133, zx134, zx135, zx136, zx137, zx138, zx139, zx140, zx141, zx142, zx143, zx144, zx145, zg2, zg17, zg32, zgo3, zgo18, zgo33, zl47, zlo, zlp, zlx, zs90, zso, zsp, zsx, zt99, zto, ztp1, ztp2, ztgo, ztso, ztsp, ztsx, zc0, zi0, zc1, zi1, zc2, zi2, zc3, zi3, zc4, zi4, zc5, zi5, zin, zcl, nI_1, Bool.and_self, Bool.true_and, Bool.and_true, tm_1, tm_4, tm_6, tm_u6, h1, zle, hso, c1, h32]
      · rw [if_neg (fun q => h32 q.2)]
        simp (disch := omega) only [fxX8_next_b120, am_gd_t, am_lt_e, am_bd_s, bi_0, bi_bz, bz0, bz1, nz2, nz10, nz100, hp_gi, hp_si, ↓reduceIte, if_true, if_false, Bool.true_eq_false, Bool.false_eq_true, eq_self, reduceCtorEq, zo0, zp0_0, zp0_1, zp0_2, zp0_4, zp0_5, zp0_6, zp0_7, zp0_8, zp0_9, zp0_10, zo1, zp1_0, zp1_5, zp1_6, zp1_9, zo16, zp16_0, zp16_5, zp16_6, zp16_9, zo31, zp31_0, zp31_5, zp31_6, zp31_9, zo46, zp46_0, zp46_1, zp46_2, zo79, zp79_0, zo83, zp83_0, zp83_1, zp83_2, zo87, zp87_0, zp87_1, zo121, zp121_0, zp121_1, zp121_2, zp121_4, zp121_5, zp121_6, zp121_7, zp121_8, zp121_16, zp121_17, zp121_18, zp121_21, zp121_23, zp121_24, zp121_25, zp121_26, zp121_27, zp121_28, zp121_29, zp121_30, zp121_31, zp121_32, zp121_33, zp121_34, zp79_2, zx2, zx13, zx14, zx15, zx17, zx28, zx29, zx30, zx32, zx43, zx44, zx45, zx47, zx78, zx80, zx84, zx85, zx86, zx88, zx89, zx90, zx99, zx120, zx122, zx123, zx124, zx125, zx126, zx127, zx128, zx129, zx130, zx131, zx132, zx133, zx134, zx135, zx136, zx137, zx138, zx139, zx140, zx141, zx142, zx143, zx144, zx145, zg2, zg17, zg32, zgo3, zgo18, zgo33, zl47, zlo, zlp, zlx, zs90, zso, zsp, zsx, zt99, zto, ztp1, ztp2, ztgo, ztso, ztsp, ztsx, zc0, zi0, zc1, zi1, zc2, zi2, zc3, zi3, zc4, zi4, zc5, zi5, zin, zcl, nI_1, Bool.and_self, Bool.true_and, Bool.and_true, tm_1, tm_4, tm_6, h1, zle, hso, c1, h32]
    · rw [if_neg (fun q => hin q.1)]
      simp (disch := omega) only [fxX8_next_b120, am_gd_t, am_lt_e, am_bd_s, bi_0, bi_bz, bz0, bz1, nz2, nz10, nz100, hp_gi, hp_si, ↓reduceIte, if_true, if_false, Bool.true_eq_false, Bool.false_eq_true, eq_self, reduceCtorEq, zo0, zp0_0, zp0_1, zp0_2, zp0_4, zp0_5, zp0_6, zp0_7, zp0_8, zp0_9, zp0_10, zo1, zp1_0, zp1_5, zp1_6, zp1_9, zo16, zp16_0, zp16_5, zp16_6, zp16_9, zo31, zp31_0, zp31_5, zp31_6, zp31_9, zo46, zp46_0, zp46_1, zp46_2, zo79, zp79_0, zo83, zp83_0, zp83_1, zp83_2, zo87, zp87_0, zp87_1, zo121, zp121_0, zp121_1, zp121_2, zp121_4, zp121_5, zp121_6, zp121_7, zp121_8, zp121_16, zp121_17, zp121_18, zp121_21, zp121_23, zp121_24, zp121_25, zp121_26, zp121_27, zp121_28, zp121_29, zp121_30, zp121_31, zp121_32, zp121_33, zp121_34, zp79_2, zx2, zx13, zx14, zx15, zx17, zx28, zx29, zx30, zx32, zx43, zx44, zx45, zx47, zx78, zx80, zx84, zx85, zx86, zx88, zx89, zx90, zx99, zx120, zx122, zx123, zx124, zx125, zx126, zx127, zx128, zx129, zx130, zx131, zx132, zx133, zx134, zx135, zx136, zx137, zx138, zx139, zx140, zx141, zx142, zx143, zx144, zx145, zg2, zg17, zg32, zgo3, zgo18, zgo33, zl47, zlo, zlp, zlx, zs90, zso, zsp, zsx, zt99, zto, ztp1, ztp2, ztgo, ztso, ztsp, ztsx, zc0, zi0, zc1, zi1, zc2, zi2, zc3, zi3, zc4, zi4, zc5, zi5, tm_1, tm_6, h1, zle']
theorem q_refuse {lp : Nat} {M : Mem} {s st e : Int32} : fxX8_refuse (some 79) (hp lp (TM M (-1) s st e)) = some ((), hp lp (TM M st s st e)) := by
  simp only [fxX8_refuse, am_gd_t, am_lt_e, am_bd_s, bi_0, bi_bz, bz0, bz1, nz2, nz10, nz100, hp_gi, hp_si, ↓reduceIte, if_true, if_false, Bool.true_eq_false, Bool.false_eq_true, eq_self, reduceCtorEq, zo0, zp0_0, zp0_1, zp0_2, zp0_4, zp0_5, zp0_6, zp0_7, zp0_8, zp0_9, zp0_10, zo1, zp1_0, zp1_5, zp1_6, zp1_9, zo16, zp16_0, zp16_5, zp16_6, zp16_9, zo31, zp31_0, zp31_5, zp31_6, zp31_9, zo46, zp46_0, zp46_1, zp46_2, zo79, zp79_0, zo83, zp83_0, zp83_1, zp83_2, zo87, zp87_0, zp87_1, zo121, zp121_0, zp121_1, zp121_2, zp121_4, zp121_5, zp121_6, zp121_7, zp121_8, zp121_16, zp121_17, zp121_18, zp121_21, zp121_23, zp121_24, zp121_25, zp121_26, zp121_27, zp121_28, zp121_29, zp121_30, zp121_31, zp121_32, zp121_33, zp121_34, zp79_2, zx2, zx13, zx14, zx15, zx17, zx28, zx29, zx30, zx32, zx43, zx44, zx45, zx47, zx78, zx80, zx84, zx85, zx86, zx88, zx89, zx90, zx99, zx120, zx122, zx123, zx124, zx125, zx126, zx127, zx128, zx129, zx130, zx131, zx132, zx133, zx134, zx135, zx136, zx137, zx138, zx139, zx140, zx141, zx142, zx143, zx144, zx145, zg2, zg17, zg32, zgo3, zgo18, zgo33, zl47, zlo, zlp, zlx, zs90, zso, zsp, zsx, zt99, zto, ztp1, ztp2, ztgo, ztso, ztsp, ztsx, zc0, zi0, zc1, zi1, zc2, zi2, zc3, zi3, zc4, zi4, zc5, zi5, tm_3, tm_5, tm_u3]
theorem q_refuse' {lp : Nat} {M : Mem} {f s st e : Int32} (hf : ¬ f = -1) : fxX8_refuse (some 79) (hp lp (TM M f s st e)) = some ((), hp lp (TM M f s st e)) := by
  simp only [fxX8_refuse, am_gd_t, am_lt_e, am_bd_s, bi_0, bi_bz, bz0, bz1, nz2, nz10, nz100, hp_gi, hp_si, ↓reduceIte, if_true, if_false, Bool.true_eq_false, Bool.false_eq_true, eq_self, reduceCtorEq, zo0, zp0_0, zp0_1, zp0_2, zp0_4, zp0_5, zp0_6, zp0_7, zp0_8, zp0_9, zp0_10, zo1, zp1_0, zp1_5, zp1_6, zp1_9, zo16, zp16_0, zp16_5, zp16_6, zp16_9, zo31, zp31_0, zp31_5, zp31_6, zp31_9, zo46, zp46_0, zp46_1, zp46_2, zo79, zp79_0, zo83, zp83_0, zp83_1, zp83_2, zo87, zp87_0, zp87_1, zo121, zp121_0, zp121_1, zp121_2, zp121_4, zp121_5, zp121_6, zp121_7, zp121_8, zp121_16, zp121_17, zp121_18, zp121_21, zp121_23, zp121_24, zp121_25, zp121_26, zp121_27, zp121_28, zp121_29, zp121_30, zp121_31, zp121_32, zp121_33, zp121_34, zp79_2, zx2, zx13, zx14, zx15, zx17, zx28, zx29, zx30, zx32, zx43, zx44, zx45, zx47, zx78, zx80, zx84, zx85, zx86, zx88, zx89, zx90, zx99, zx120, zx122, zx123, zx124, zx125, zx126, zx127, zx128, zx129, zx130, zx131, zx132, zx133, zx134, zx135, zx136, zx137, zx138, zx139, zx140, zx141, zx142, zx143, zx144, zx145, zg2, zg17, zg32, zgo3, zgo18, zgo33, zl47, zlo, zlp, zlx, zs90, zso, zsp, zsx, zt99, zto, ztp1, ztp2, ztgo, ztso, ztsp, ztsx, zc0, zi0, zc1, zi1, zc2, zi2, zc3, zi3, zc4, zi4, zc5, zi5, tm_3, hf]
theorem next_fin {lp s st en e : Nat} {wb : Bool} {M : Mem} (hs : s ≤ 3) (h1 : st ≤ en) (h2 : en ≤ 96) (h3 : e ≤ 96) (P : Prop) (hP : P ↔ ((wb = true ∧ st = e ∧ (s = 1 ∨ s = 2)) ∨ (s = 2 ∧ 4 < en - st))) : (P → fxX8_next_b159 (some 79) (bi wb) (nI e) (hp lp (TM M (-1) (nI s) (nI st) (nI en))) = some ((), hp lp (TM M (nI st) (nI s) (nI st) (nI en)))) ∧ (¬ P → fxX8_next_b159 (some 79) (bi wb) (nI e) (hp lp (TM M (-1) (nI s) (nI st) (nI en))) = some ((), hp lp (TM M (-1) (nI s) (nI st) (nI en)))) := by
  have c1 : (nI st = nI e) = (st = e) := propext (nI_eq (by omega) (by omega))
  have c2 : (nI s = (1 : Int32)) = (s = 1) := propext (nI_eq (b := 1) (by omega) (by decide))
  have c3 : (nI s = (2 : Int32)) = (s = 2) := propext (nI_eq (b := 2) (by omega) (by decide))
  have c4 : (nI en - nI st ≤ (4 : Int32)) = (en - st ≤ 4) := by
    rw [pk_sub h1]; exact propext (nI_leI (b := 4) (by omega) (by decide))
  have hr := q_refuse (lp := lp) (M := M) (s := nI s) (st := nI st) (e := nI en)
  have key : fxX8_next_b159 (some 79) (bi wb) (nI e) (hp lp (TM M (-1) (nI s) (nI st) (nI en))) = (if (wb = true ∧ st = e ∧ (s = 1 ∨ s = 2)) ∨ (s = 2 ∧ 4 < en - st) then some ((), hp lp (TM M (nI st) (nI s) (nI st) (nI en))) else some ((), hp lp (TM M (-1) (nI s) (nI st) (nI en)))) := by
    simp only [fxX8_next_b159, fxX8_next_b191, fxX8_next_b187, fxX8_next_b192, fxX8_next_b218, fxX8_next_b219, fxX8_next_b230, am_gd_t, am_lt_e, am_bd_s, bi_0, bi_bz, bz0, bz1, nz2, nz10, nz100, hp_gi, hp_si, ↓reduceIte, if_true, if_false, Bool.true_eq_false, Bool.false_eq_true, eq_self, reduceCtorEq, zo0, zp0_0, zp0_1, zp0_2, zp0_4, zp0_5, zp0_6, zp0_7, zp0_8, zp0_9, zp0_10, zo1, zp1_0, zp1_5, zp1_6, zp1_9, zo16, zp16_0, zp16_5, zp16_6, zp16_9, zo31, zp31_0, zp31_5, zp31_6, zp31_9, zo46, zp46_0, zp46_1, zp46_2, zo79, zp79_0, zo83, zp83_0, zp83_1, zp83_2, zo87, zp87_0, zp87_1, zo121, zp121_0, zp121_1, zp121_2, zp121_4, zp121_5, zp121_6, zp121_7, zp121_8, zp121_16, zp121_17, zp121_18, zp121_21, zp121_23, zp121_24, zp121_25, zp121_26, zp121_27, zp121_28, zp121_29, zp121_30, zp121_31, zp121_32, zp121_33, zp121_34, zp79_2, zx2, zx13, zx14, zx15, zx17, zx28, zx29, zx30, zx32, zx43, zx44, zx45, zx47, zx78, zx80, zx84, zx85, zx86, zx88, zx89, zx90, zx99, zx120, zx122, zx123, zx124, zx125, zx126, zx127, zx128, zx129, zx130, zx131, zx132, zx133, zx134, zx135, zx136, zx137, zx138, zx139, zx140, zx141, zx142, zx143, zx144, zx145, zg2, zg17, zg32, zgo3, zgo18, zgo33, zl47, zlo, zlp, zlx, zs90, zso, zsp, zsx, zt99, zto, ztp1, ztp2, ztgo, ztso, ztsp, ztsx, zc0, zi0, zc1, zi1, zc2, zi2, zc3, zi3, zc4, zi4, zc5, zi5, tm_4, tm_5, tm_6, c1, c2, c3, c4, hr, one0]
    have q5 : (4 < en - st) = ¬ (en - st ≤ 4) := propext Nat.not_le.symm
    simp only [q5]
    have w1 : (st = e) = True ∨ (st = e) = False := by
      by_cases q : st = e
      · exact Or.inl (eq_true q)
      · exact Or.inr (eq_false q)
    have w4 : (en - st ≤ 4) = True ∨ (en - st ≤ 4) = False := by
      by_cases q : en - st ≤ 4
      · exact Or.inl (eq_true q)
      · exact Or.inr (eq_false q)
    rcases (show s = 1 ∨ s = 2 ∨ (s ≠ 1 ∧ s ≠ 2) by omega) with rfl | rfl | ⟨a1, a2⟩
    · cases wb <;> rcases w1 with w1 | w1 <;> rcases w4 with w4 | w4 <;> simp [w1, w4]
    · cases wb <;> rcases w1 with w1 | w1 <;> rcases w4 with w4 | w4 <;> simp [w1, w4]
    · cases wb <;> rcases w1 with w1 | w1 <;> rcases w4 with w4 | w4 <;> simp [w1, w4, a1, a2]
  rw [key]
  constructor
  · intro h; rw [if_pos (hP.mp h)]
  · intro h; rw [if_neg (fun q => h (hP.mpr q))]
theorem q_next {lp n s e : Nat} {b : Nat → Nat} {M : Mem} {st : Int32} (hB : TpC M b n) (hs : s ≤ 3) (he : e ≤ n) : (bdT b n s e → fxX8_next (some 79) (hp lp (TM M (-1) (nI s) st (nI e))) = some ((), hp lp (TM M (nI (stT b n e)) (nI (so b n (stT b n e))) (nI (stT b n e)) (nI (enT b n (stT b n e)))))) ∧ (¬ bdT b n s e → fxX8_next (some 79) (hp lp (TM M (-1) (nI s) st (nI e))) = some ((), hp lp (TM M (-1) (nI (so b n (stT b n e))) (nI (stT b n e)) (nI (enT b n (stT b n e)))))) := by
  have hn := hB.1
  have h1 : stT b n e ≤ n := st_le he
  have h3 : stT b n e ≤ enT b n (stT b n e) := en_ge
  have h4 : enT b n (stT b n e) ≤ n := en_le h1
  have hsl := so_le b n (stT b n e)
  have c2 : (nI s = (1 : Int32)) = (s = 1) := propext (nI_eq (b := 1) (by omega) (by decide))
  have c3 : (nI s = (2 : Int32)) = (s = 2) := propext (nI_eq (b := 2) (by omega) (by decide))
  have k79 : ∀ wb : Bool, fxX8_next_b79 (some 79) (bi wb) (nI e) (hp lp (TM M (-1) (nI s) (nI (stT b n e)) (nI e))) = fxX8_next_b159 (some 79) (bi wb) (nI e) (hp lp (TM M (-1) (nI (so b n (stT b n e))) (nI (stT b n e)) (nI (enT b n (stT b n e))))) := by
    intro wb
    have hso := fun (e' : Int32) => q_sortAt (lp := lp) (f := -1) (s := nI s) (st := nI (stT b n e)) (e := e') hB (show stT b n e ≤ 96 by omega)
    by_cases q : so b n (stT b n e) = 3
    · have he : enT b n (stT b n e) = stT b n e + 1 := by unfold enT; rw [if_pos q]
      rw [he, q]
      simp only [fxX8_next_b79, am_gd_t, am_lt_e, am_bd_s, bi_0, bi_bz, bz0, bz1, nz2, nz10, nz100, hp_gi, hp_si, ↓reduceIte, if_true, if_false, Bool.true_eq_false, Bool.false_eq_true, eq_self, reduceCtorEq, zo0, zp0_0, zp0_1, zp0_2, zp0_4, zp0_5, zp0_6, zp0_7, zp0_8, zp0_9, zp0_10, zo1, zp1_0, zp1_5, zp1_6, zp1_9, zo16, zp16_0, zp16_5, zp16_6, zp16_9, zo31, zp31_0, zp31_5, zp31_6, zp31_9, zo46, zp46_0, zp46_1, zp46_2, zo79, zp79_0, zo83, zp83_0, zp83_1, zp83_2, zo87, zp87_0, zp87_1, zo121, zp121_0, zp121_1, zp121_2, zp121_4, zp121_5, zp121_6, zp121_7, zp121_8, zp121_16, zp121_17, zp121_18, zp121_21, zp121_23, zp121_24, zp121_25, zp121_26, zp121_27, zp121_28, zp121_29, zp121_30, zp121_31, zp121_32, zp121_33, zp121_34, zp79_2, zx2, zx13, zx14, zx15, zx17, zx28, zx29, zx30, zx32, zx43, zx44, zx45, zx47, zx78, zx80, zx84, zx85, zx86, zx88, zx89, zx90, zx99, zx120, zx122, zx123, zx124, zx125, zx126, zx127, zx128, zx129, zx130, zx131, zx132, zx133, zx134, zx135, zx136, zx137, zx138, zx139, zx140, zx141, zx142, zx143, zx144, zx145, zg2, zg17, zg32, zgo3, zgo18, zgo33, zl47, zlo, zlp, zlx, zs90, zso, zsp, zsx, zt99, zto, ztp1, ztp2, ztgo, ztso, ztsp, ztsx, zc0, zi0, zc1, zi1, zc2, zi2, zc3, zi3, zc4, zi4, zc5, zi5, tm_4, tm_5, tm_6, tm_u4, tm_u6, hso, q, show (nI 3 = (3 : Int32)) = True from by decide, nI_1]
    · have he : enT b n (stT b n e) = exB b n (so b n (stT b n e)) (n - stT b n e) (stT b n e) := by unfold enT; rw [if_neg q]
      have c4 : (nI (so b n (stT b n e)) = (3 : Int32)) = False := eq_false (fun x => q ((nI_eq (b := 3) (by omega) (by decide)).mp x))
      rw [he, ← next_ex (lp := lp) hB hsl (n - stT b n e) (stT b n e) am_F (by omega) h1 (by unfold am_F; omega)]
      simp only [fxX8_next_b79, am_gd_t, am_lt_e, am_bd_s, bi_0, bi_bz, bz0, bz1, nz2, nz10, nz100, hp_gi, hp_si, ↓reduceIte, if_true, if_false, Bool.true_eq_false, Bool.false_eq_true, eq_self, reduceCtorEq, zo0, zp0_0, zp0_1, zp0_2, zp0_4, zp0_5, zp0_6, zp0_7, zp0_8, zp0_9, zp0_10, zo1, zp1_0, zp1_5, zp1_6, zp1_9, zo16, zp16_0, zp16_5, zp16_6, zp16_9, zo31, zp31_0, zp31_5, zp31_6, zp31_9, zo46, zp46_0, zp46_1, zp46_2, zo79, zp79_0, zo83, zp83_0, zp83_1, zp83_2, zo87, zp87_0, zp87_1, zo121, zp121_0, zp121_1, zp121_2, zp121_4, zp121_5, zp121_6, zp121_7, zp121_8, zp121_16, zp121_17, zp121_18, zp121_21, zp121_23, zp121_24, zp121_25, zp121_26, zp121_27, zp121_28, zp121_29, zp121_30, zp121_31, zp121_32, zp121_33, zp121_34, zp79_2, zx2, zx13, zx14, zx15, zx17, zx28, zx29, zx30, zx32, zx43, zx44, zx45, zx47, zx78, zx80, zx84, zx85, zx86, zx88, zx89, zx90, zx99, zx120, zx122, zx123, zx124, zx125, zx126, zx127, zx128, zx129, zx130, zx131, zx132, zx133, zx134, zx135, zx136, zx137, zx138, zx139, zx140, zx141, zx142, zx143, zx144, zx145, zg2, zg17, zg32, zgo3, zgo18, zgo33, zl47, zlo, zlp, zlx, zs90, zso, zsp, zsx, zt99, zto, ztp1, ztp2, ztgo, ztso, ztsp, ztsx, zc0, zi0, zc1, zi1, zc2, zi2, zc3, zi3, zc4, zi4, zc5, zi5, tm_4, tm_5, tm_6, tm_u4, tm_u6, hso, c4]
  have main : fxX8_next (some 79) (hp lp (TM M (-1) (nI s) st (nI e))) = fxX8_next_b159 (some 79) (bi (decide (s = 1 ∨ s = 2))) (nI e) (hp lp (TM M (-1) (nI (so b n (stT b n e))) (nI (stT b n e)) (nI (enT b n (stT b n e))))) := by
    have k30 : ∀ wb : Bool, fxX8_next_b30 (some 79) (bi wb) (hp lp (TM M (-1) (nI s) st (nI e))) = fxX8_next_b159 (some 79) (bi wb) (nI e) (hp lp (TM M (-1) (nI (so b n (stT b n e))) (nI (stT b n e)) (nI (enT b n (stT b n e))))) := by
      intro wb
      have hsk := next_sk (lp := lp) (f := -1) (s := nI s) (e := nI e) (w := bi wb) (fr := nI e) hB (n - e) e am_F (by omega) he (by unfold am_F; omega)
      rw [← k79 wb]
      simp only [fxX8_next_b30, am_gd_t, am_lt_e, am_bd_s, bi_0, bi_bz, bz0, bz1, nz2, nz10, nz100, hp_gi, hp_si, ↓reduceIte, if_true, if_false, Bool.true_eq_false, Bool.false_eq_true, eq_self, reduceCtorEq, zo0, zp0_0, zp0_1, zp0_2, zp0_4, zp0_5, zp0_6, zp0_7, zp0_8, zp0_9, zp0_10, zo1, zp1_0, zp1_5, zp1_6, zp1_9, zo16, zp16_0, zp16_5, zp16_6, zp16_9, zo31, zp31_0, zp31_5, zp31_6, zp31_9, zo46, zp46_0, zp46_1, zp46_2, zo79, zp79_0, zo83, zp83_0, zp83_1, zp83_2, zo87, zp87_0, zp87_1, zo121, zp121_0, zp121_1, zp121_2, zp121_4, zp121_5, zp121_6, zp121_7, zp121_8, zp121_16, zp121_17, zp121_18, zp121_21, zp121_23, zp121_24, zp121_25, zp121_26, zp121_27, zp121_28, zp121_29, zp121_30, zp121_31, zp121_32, zp121_33, zp121_34, zp79_2, zx2, zx13, zx14, zx15, zx17, zx28, zx29, zx30, zx32, zx43, zx44, zx45, zx47, zx78, zx80, zx84, zx85, zx86, zx88, zx89, zx90, zx99, zx120, zx122, zx123, zx124, zx125, zx126, zx127, zx128, zx129, zx130, zx131, zx132, zx133, zx134, zx135, zx136, zx137, zx138, zx139, zx140, zx141, zx142, zx143, zx144, zx145, zg2, zg17, zg32, zgo3, zgo18, zgo33, zl47, zlo, zlp, zlx, zs90, zso, zsp, zsx, zt99, zto, ztp1, ztp2, ztgo, ztso, ztsp, ztsx, zc0, zi0, zc1, zi1, zc2, zi2, zc3, zi3, zc4, zi4, zc5, zi5, tm_5, tm_6, tm_u5]
      exact hsk
    by_cases q1 : s = 1
    · rw [show decide (s = 1 ∨ s = 2) = true from decide_eq_true (Or.inl q1), ← k30 true]
      simp only [fxX8_next, fxX8_next_b25, am_gd_t, am_lt_e, am_bd_s, bi_0, bi_bz, bz0, bz1, nz2, nz10, nz100, hp_gi, hp_si, ↓reduceIte, if_true, if_false, Bool.true_eq_false, Bool.false_eq_true, eq_self, reduceCtorEq, zo0, zp0_0, zp0_1, zp0_2, zp0_4, zp0_5, zp0_6, zp0_7, zp0_8, zp0_9, zp0_10, zo1, zp1_0, zp1_5, zp1_6, zp1_9, zo16, zp16_0, zp16_5, zp16_6, zp16_9, zo31, zp31_0, zp31_5, zp31_6, zp31_9, zo46, zp46_0, zp46_1, zp46_2, zo79, zp79_0, zo83, zp83_0, zp83_1, zp83_2, zo87, zp87_0, zp87_1, zo121, zp121_0, zp121_1, zp121_2, zp121_4, zp121_5, zp121_6, zp121_7, zp121_8, zp121_16, zp121_17, zp121_18, zp121_21, zp121_23, zp121_24, zp121_25, zp121_26, zp121_27, zp121_28, zp121_29, zp121_30, zp121_31, zp121_32, zp121_33, zp121_34, zp79_2, zx2, zx13, zx14, zx15, zx17, zx28, zx29, zx30, zx32, zx43, zx44, zx45, zx47, zx78, zx80, zx84, zx85, zx86, zx88, zx89, zx90, zx99, zx120, zx122, zx123, zx124, zx125, zx126, zx127, zx128, zx129, zx130, zx131, zx132, zx133, zx134, zx135, zx136, zx137, zx138, zx139, zx140, zx141, zx142, zx143, zx144, zx145, zg2, zg17, zg32, zgo3, zgo18, zgo33, zl47, zlo, zlp, zlx, zs90, zso, zsp, zsx, zt99, zto, ztp1, ztp2, ztgo, ztso, ztsp, ztsx, zc0, zi0, zc1, zi1, zc2, zi2, zc3, zi3, zc4, zi4, zc5, zi5, tm_3, tm_4, c2, q1]
      rfl
    · by_cases q2 : s = 2
      · rw [show decide (s = 1 ∨ s = 2) = true from decide_eq_true (Or.inr q2), ← k30 true]
        simp only [fxX8_next, fxX8_next_b25, am_gd_t, am_lt_e, am_bd_s, bi_0, bi_bz, bz0, bz1, nz2, nz10, nz100, hp_gi, hp_si, ↓reduceIte, if_true, if_false, Bool.true_eq_false, Bool.false_eq_true, eq_self, reduceCtorEq, zo0, zp0_0, zp0_1, zp0_2, zp0_4, zp0_5, zp0_6, zp0_7, zp0_8, zp0_9, zp0_10, zo1, zp1_0, zp1_5, zp1_6, zp1_9, zo16, zp16_0, zp16_5, zp16_6, zp16_9, zo31, zp31_0, zp31_5, zp31_6, zp31_9, zo46, zp46_0, zp46_1, zp46_2, zo79, zp79_0, zo83, zp83_0, zp83_1, zp83_2, zo87, zp87_0, zp87_1, zo121, zp121_0, zp121_1, zp121_2, zp121_4, zp121_5, zp121_6, zp121_7, zp121_8, zp121_16, zp121_17, zp121_18, zp121_21, zp121_23, zp121_24, zp121_25, zp121_26, zp121_27, zp121_28, zp121_29, zp121_30, zp121_31, zp121_32, zp121_33, zp121_34, zp79_2, zx2, zx13, zx14, zx15, zx17, zx28, zx29, zx30, zx32, zx43, zx44, zx45, zx47, zx78, zx80, zx84, zx85, zx86, zx88, zx89, zx90, zx99, zx120, zx122, zx123, zx124, zx125, zx126, zx127, zx128, zx129, zx130, zx131, zx132, zx133, zx134, zx135, zx136, zx137, zx138, zx139, zx140, zx141, zx142, zx143, zx144, zx145, zg2, zg17, zg32, zgo3, zgo18, zgo33, zl47, zlo, zlp, zlx, zs90, zso, zsp, zsx, zt99, zto, ztp1, ztp2, ztgo, ztso, ztsp, ztsx, zc0, zi0, zc1, zi1, zc2, zi2, zc3, zi3, zc4, zi4, zc5, zi5, tm_3, tm_4, c2, c3, q1, q2]
        rfl
      · rw [show decide (s = 1 ∨ s = 2) = false from decide_eq_false (by omega), ← k30 false]
        simp only [fxX8_next, fxX8_next_b25, am_gd_t, am_lt_e, am_bd_s, bi_0, bi_bz, bz0, bz1, nz2, nz10, nz100, hp_gi, hp_si, ↓reduceIte, if_true, if_false, Bool.true_eq_false, Bool.false_eq_true, eq_self, reduceCtorEq, zo0, zp0_0, zp0_1, zp0_2, zp0_4, zp0_5, zp0_6, zp0_7, zp0_8, zp0_9, zp0_10, zo1, zp1_0, zp1_5, zp1_6, zp1_9, zo16, zp16_0, zp16_5, zp16_6, zp16_9, zo31, zp31_0, zp31_5, zp31_6, zp31_9, zo46, zp46_0, zp46_1, zp46_2, zo79, zp79_0, zo83, zp83_0, zp83_1, zp83_2, zo87, zp87_0, zp87_1, zo121, zp121_0, zp121_1, zp121_2, zp121_4, zp121_5, zp121_6, zp121_7, zp121_8, zp121_16, zp121_17, zp121_18, zp121_21, zp121_23, zp121_24, zp121_25, zp121_26, zp121_27, zp121_28, zp121_29, zp121_30, zp121_31, zp121_32, zp121_33, zp121_34, zp79_2, zx2, zx13, zx14, zx15, zx17, zx28, zx29, zx30, zx32, zx43, zx44, zx45, zx47, zx78, zx80, zx84, zx85, zx86, zx88, zx89, zx90, zx99, zx120, zx122, zx123, zx124, zx125, zx126, zx127, zx128, zx129, zx130, zx131, zx132, zx133, zx134, zx135, zx136, zx137, zx138, zx139, zx140, zx141, zx142, zx143, zx144, zx145, zg2, zg17, zg32, zgo3, zgo18, zgo33, zl47, zlo, zlp, zlx, zs90, zso, zsp, zsx, zt99, zto, ztp1, ztp2, ztgo, ztso, ztsp, ztsx, zc0, zi0, zc1, zi1, zc2, zi2, zc3, zi3, zc4, zi4, zc5, zi5, tm_3, tm_4, c2, c3, q1, q2]
        rfl
  have fin := next_fin (lp := lp) (wb := decide (s = 1 ∨ s = 2)) (M := M) (e := e) hsl h3 (show enT b n (stT b n e) ≤ 96 by omega) (by omega) (bdT b n s e) (by unfold bdT; rw [decide_eq_true_eq])
  rw [main]
  exact fin
theorem q_next' {lp : Nat} {M : Mem} {f s st e : Int32} (hf : ¬ f = -1) : fxX8_next (some 79) (hp lp (TM M f s st e)) = some ((), hp lp (TM M f s st e)) := by
  simp only [fxX8_next, am_gd_t, am_lt_e, am_bd_s, bi_0, bi_bz, bz0, bz1, nz2, nz10, nz100, hp_gi, hp_si, ↓reduceIte, if_true, if_false, Bool.true_eq_false, Bool.false_eq_true, eq_self, reduceCtorEq, zo0, zp0_0, zp0_1, zp0_2, zp0_4, zp0_5, zp0_6, zp0_7, zp0_8, zp0_9, zp0_10, zo1, zp1_0, zp1_5, zp1_6, zp1_9, zo16, zp16_0, zp16_5, zp16_6, zp16_9, zo31, zp31_0, zp31_5, zp31_6, zp31_9, zo46, zp46_0, zp46_1, zp46_2, zo79, zp79_0, zo83, zp83_0, zp83_1, zp83_2, zo87, zp87_0, zp87_1, zo121, zp121_0, zp121_1, zp121_2, zp121_4, zp121_5, zp121_6, zp121_7, zp121_8, zp121_16, zp121_17, zp121_18, zp121_21, zp121_23, zp121_24, zp121_25, zp121_26, zp121_27, zp121_28, zp121_29, zp121_30, zp121_31, zp121_32, zp121_33, zp121_34, zp79_2, zx2, zx13, zx14, zx15, zx17, zx28, zx29, zx30, zx32, zx43, zx44, zx45, zx47, zx78, zx80, zx84, zx85, zx86, zx88, zx89, zx90, zx99, zx120, zx122, zx123, zx124, zx125, zx126, zx127, zx128, zx129, zx130, zx131, zx132, zx133, zx134, zx135, zx136, zx137, zx138, zx139, zx140, zx141, zx142, zx143, zx144, zx145, zg2, zg17, zg32, zgo3, zgo18, zgo33, zl47, zlo, zlp, zlx, zs90, zso, zsp, zsx, zt99, zto, ztp1, ztp2, ztgo, ztso, ztsp, ztsx, zc0, zi0, zc1, zi1, zc2, zi2, zc3, zi3, zc4, zi4, zc5, zi5, tm_3, hf]
