/-! ===== the reference's waits: settling, counting ===== -/
def stl (r : Nat) : List Int32 → List Int32 → List Int32 × List Int32
  | [], c => ([], c)
  | x :: W, c => if x = -11 ∨ rk x < r then (x :: W, c) else stl r W (x :: c)
def opN (W : List Int32) : Nat := W.countP (fun x => x == -11)
def noN (W : List Int32) : Nat := W.countP (fun x => x == -10)
/-- a NOT lies under a NOT or a bracket alone -/
def adj : List Int32 → Prop
  | [] => True
  | [_] => True
  | x :: y :: W => (y = -10 → x = -10 ∨ x = -11) ∧ adj (y :: W)
def hd1 : List Int32 → Prop
  | [] => True
  | x :: _ => x ≠ -10
theorem adj_t {x : Int32} {W : List Int32} (h : adj (x :: W)) : adj W := by
  cases W with
  | nil => trivial
  | cons y W => exact h.2
theorem adj_c {x : Int32} {W : List Int32} (h : adj W) (hx : hd1 W ∨ x = -10 ∨ x = -11) : adj (x :: W) := by
  cases W with
  | nil => trivial
  | cons y W =>
    refine ⟨fun hy => ?_, h⟩
    rcases hx with q | q
    · exact absurd hy q
    · exact q
theorem rk_n10 : rk (-10) = 6 := by decide
theorem rk_ge6 {x : Int32} (h : ¬ rk x < 6) (h11 : ¬ x = -11) (hv : -11 ≤ x) : x = -10 := by
  unfold rk at h
  split at h
  · omega
  · split at h
    · omega
    · split at h
      · split at h
        · split at h
          · next q =>
            have h1 := Int32.lt_iff_toInt_lt.mp q
            have h2 := Int32.le_iff_toInt_le.mp hv
            have e1 : (-9 : Int32).toInt = -9 := by decide
            have e2 : (-11 : Int32).toInt = -11 := by decide
            have h3 : x.toInt ≠ -11 := fun e => h11 (Int32.toInt_inj.mp (by rw [e, e2]))
            exact Int32.toInt_inj.mp (by rw [show (-10 : Int32).toInt = -10 by decide]; omega)
          · omega
        · omega
      · omega
theorem stl_op (r : Nat) : ∀ W c, opN (stl r W c).1 = opN W := by
  intro W
  induction W with
  | nil => intro c; rfl
  | cons x W ih =>
    intro c
    unfold stl
    split
    · rfl
    · next q =>
      rw [ih]
      unfold opN
      rw [List.countP_cons, if_neg (fun x => q (Or.inl (beq_iff_eq.mp x)))]
      rfl
theorem stl_len (r : Nat) : ∀ W c, (stl r W c).1.length + (stl r W c).2.length = W.length + c.length := by
  intro W
  induction W with
  | nil => intro c; rfl
  | cons x W ih =>
    intro c
    unfold stl
    split
    · rfl
    · rw [ih]; simp only [List.length_cons]; omega
theorem stl_adj (r : Nat) : ∀ W c, adj W → adj (stl r W c).1 := by
  intro W
  induction W with
  | nil => intro c _; trivial
  | cons x W ih =>
    intro c h
    unfold stl
    split
    · exact h
    · exact ih _ (adj_t h)
/-- where no NOT is on top, none is settled -/
theorem stl_no (r : Nat) : ∀ W c, adj W → hd1 W → noN (stl r W c).1 = noN W ∧ hd1 (stl r W c).1 := by
  intro W
  induction W with
  | nil => intro c _ _; exact ⟨rfl, trivial⟩
  | cons x W ih =>
    intro c h h1
    unfold stl
    split
    · exact ⟨rfl, h1⟩
    · next q =>
      have hW : hd1 W := by
        cases W with
        | nil => trivial
        | cons y W =>
          intro hy
          rcases h.1 hy with z | z
          · exact h1 z
          · exact q (Or.inl z)
      obtain ⟨i1, i2⟩ := ih (x :: c) (adj_t h) hW
      refine ⟨?_, i2⟩
      rw [i1]
      unfold noN
      rw [List.countP_cons, if_neg (fun z => h1 (beq_iff_eq.mp z))]
      rfl
theorem stl_6 : ∀ W c, (∀ x, x ∈ W → -11 ≤ x) → hd1 (stl 6 W c).1 := by
  intro W
  induction W with
  | nil => intro c _; trivial
  | cons x W ih =>
    intro c hv
    unfold stl
    split
    · next q =>
      intro hx
      subst hx
      rcases q with q | q
      · revert q; decide
      · revert q; decide
    · exact ih _ (fun y hy => hv y (List.mem_cons_of_mem _ hy))
theorem stl_mem (r : Nat) : ∀ W c x, x ∈ (stl r W c).1 → x ∈ W := by
  intro W
  induction W with
  | nil => intro c x h; exact h
  | cons y W ih =>
    intro c x h
    unfold stl at h
    split at h
    · exact h
    · exact List.mem_cons_of_mem _ (ih _ _ h)
theorem q_rank (x : Int32) (h : am_H) : fxX10_rank x h = some (nI (rk x), h) := by
  unfold fxX10_rank rk
  repeat' split
  all_goals rfl
theorem SR_app {a : Nat → Int32} {B : List Int32} : ∀ {A : List Int32}, SR a (A ++ B) → SR a B := by
  intro A
  induction A with
  | nil => intro h; exact h
  | cons x A ih => intro h; exact ih h.2
theorem rk_le (x : Int32) : rk x ≤ 6 := by
  unfold rk
  repeat' split
  all_goals omega
theorem q_settle {lp r : Nat} (hr : r ≤ 6) {nx fr tk vl ed am : Int32} : ∀ (W c : List Int32) fuel (N : Mem), W.length < fuel → c.length + W.length ≤ 96 → SR (N 132) c → SR (N 133) W → ∃ N', fxX10_settle_b0 fuel (some 121) (nI r) (hp lp (GM N nx fr tk vl ed (nI c.length) am (nI W.length))) = some ((), hp lp (GM N' nx fr tk vl ed (nI (stl r W c).2.length) am (nI (stl r W c).1.length))) ∧ SR (N' 132) (stl r W c).2 ∧ SR (N' 133) (stl r W c).1 ∧ ∀ z, z ≠ 132 → N' z = N z := by
  intro W
  induction W with
  | nil =>
    intro c fuel N hf hl h1 h2
    obtain ⟨fuel, rfl⟩ : ∃ f, fuel = f + 1 := ⟨fuel - 1, by omega⟩
    refine ⟨N, ?_, h1, trivial, fun _ _ => rfl⟩
    simp only [fxX10_settle_b0, am_gd_t, am_lt_e, am_bd_s, bi_0, bi_bz, bz0, bz1, nz2, nz10, nz100, hp_gi, hp_si, ↓reduceIte, if_true, if_false, Bool.true_eq_false, Bool.false_eq_true, eq_self, reduceCtorEq, zo0, zp0_0, zp0_1, zp0_2, zp0_4, zp0_5, zp0_6, zp0_7, zp0_8, zp0_9, zp0_10, zo1, zp1_0, zp1_5, zp1_6, zp1_9, zo16, zp16_0, zp16_5, zp16_6, zp16_9, zo31, zp31_0, zp31_5, zp31_6, zp31_9, zo46, zp46_0, zp46_1, zp46_2, zo79, zp79_0, zo83, zp83_0, zp83_1, zp83_2, zo87, zp87_0, zp87_1, zo121, zp121_0, zp121_1, zp121_2, zp121_4, zp121_5, zp121_6, zp121_7, zp121_8, zp121_16, zp121_17, zp121_18, zp121_21, zp121_23, zp121_24, zp121_25, zp121_26, zp121_27, zp121_28, zp121_29, zp121_30, zp121_31, zp121_32, zp121_33, zp121_34, zp79_2, zx2, zx13, zx14, zx15, zx17, zx28, zx29, zx30, zx32, zx43, zx44, zx45, zx47, zx78, zx80, zx84, zx85, zx86, zx88, zx89, zx90, zx99, zx120, zx122, zx123, zx124, zx125, zx126, zx127, zx128, zx129, zx130, zx131, zx132, zx133, zx134, zx135, zx136, zx137, zx138, zx139, zx140, zx141, zx142, zx143, zx144, zx145, zg2, zg17, zg32, zgo3, zgo18, zgo33, zl47, zlo, zlp, zlx, zs90, zso, zsp, zsx, zt99, zto, ztp1, ztp2, ztgo, ztso, ztsp, ztsx, zc0, zi0, zc1, zi1, zc2, zi2, zc3, zi3, zc4, zi4, zc5, zi5, gm_22, stl, List.length_nil, show (nI 0 ≤ 0) = True from by decide]
  | cons x W ih =>
    intro c fuel N hf hl h1 h2
    obtain ⟨fuel, rfl⟩ : ∃ f, fuel = f + 1 := ⟨fuel - 1, by omega⟩
    simp only [List.length_cons] at hl hf ⊢
    have e0 : (nI (W.length + 1) ≤ 0) = False := eq_false (nI_nle (by omega) (by omega))
    have ex : N 133 W.length = x := h2.1
    unfold stl
    by_cases h11 : x = -11
    · rw [if_pos (Or.inl h11)]
      refine ⟨N, ?_, h1, h2, fun _ _ => rfl⟩
      have d := eq_true h11
      simp (disch := omega) only [fxX10_settle_b0, am_gd_t, am_lt_e, am_bd_s, bi_0, bi_bz, bz0, bz1, nz2, nz10, nz100, hp_gi, hp_si, ↓reduceIte, if_true, if_false, Bool.true_eq_false, Bool.false_eq_true, eq_self, reduceCtorEq, zo0, zp0_0, zp0_1, zp0_2, zp0_4, zp0_5, zp0_6, zp0_7, zp0_8, zp0_9, zp0_10, zo1, zp1_0, zp1_5, zp1_6, zp1_9, zo16, zp16_0, zp16_5, zp16_6, zp16_9, zo31, zp31_0, zp31_5, zp31_6, zp31_9, zo46, zp46_0, zp46_1, zp46_2, zo79, zp79_0, zo83, zp83_0, zp83_1, zp83_2, zo87, zp87_0, zp87_1, zo121, zp121_0, zp121_1, zp121_2, zp121_4, zp121_5, zp121_6, zp121_7, zp121_8, zp121_16, zp121_17, zp121_18, zp121_21, zp121_23, zp121_24, zp121_25, zp121_26, zp121_27, zp121_28, zp121_29, zp121_30, zp121_31, zp121_32, zp121_33, zp121_34, zp79_2, zx2, zx13, zx14, zx15, zx17, zx28, zx29, zx30, zx32, zx43, zx44, zx45, zx47, zx78, zx80, zx84, zx85, zx86, zx88, zx89, zx90, zx99, zx120, zx122, zx123, zx124, zx125, zx126, zx127, zx128, zx129, zx130, zx131, zx132, zx133, zx134, zx135, zx136, zx137, zx138, zx139, zx140, zx141, zx142, zx143, zx144, zx145, zg2, zg17, zg32, zgo3, zgo18, zgo33, zl47, zlo, zlp, zlx, zs90, zso, zsp, zsx, zt99, zto, ztp1, ztp2, ztgo, ztso, ztsp, ztsx, zc0, zi0, zc1, zi1, zc2, zi2, zc3, zi3, zc4, zi4, zc5, zi5, zin, zcl, nI_1, Bool.and_self, Bool.true_and, Bool.and_true, gm_22, gm_133, e0, nI_pred, ex, d, List.length_cons]
    · have d := eq_false h11
      have hrk := rk_le x
      have c1 : (nI (rk x) < nI r) = (rk x < r) := propext (nI_ltI (by omega) (by omega))
      by_cases hlt : rk x < r
      · rw [if_pos (Or.inr hlt)]
        refine ⟨N, ?_, h1, h2, fun _ _ => rfl⟩
        have d2 := c1.trans (eq_true hlt)
        simp (disch := omega) only [fxX10_settle_b0, am_gd_t, am_lt_e, am_bd_s, bi_0, bi_bz, bz0, bz1, nz2, nz10, nz100, hp_gi, hp_si, ↓reduceIte, if_true, if_false, Bool.true_eq_false, Bool.false_eq_true, eq_self, reduceCtorEq, zo0, zp0_0, zp0_1, zp0_2, zp0_4, zp0_5, zp0_6, zp0_7, zp0_8, zp0_9, zp0_10, zo1, zp1_0, zp1_5, zp1_6, zp1_9, zo16, zp16_0, zp16_5, zp16_6, zp16_9, zo31, zp31_0, zp31_5, zp31_6, zp31_9, zo46, zp46_0, zp46_1, zp46_2, zo79, zp79_0, zo83, zp83_0, zp83_1, zp83_2, zo87, zp87_0, zp87_1, zo121, zp121_0, zp121_1, zp121_2, zp121_4, zp121_5, zp121_6, zp121_7, zp121_8, zp121_16, zp121_17, zp121_18, zp121_21, zp121_23, zp121_24, zp121_25, zp121_26, zp121_27, zp121_28, zp121_29, zp121_30, zp121_31, zp121_32, zp121_33, zp121_34, zp79_2, zx2, zx13, zx14, zx15, zx17, zx28, zx29, zx30, zx32, zx43, zx44, zx45, zx47, zx78, zx80, zx84, zx85, zx86, zx88, zx89, zx90, zx99, zx120, zx122, zx123, zx124, zx125, zx126, zx127, zx128, zx129, zx130, zx131, zx132, zx133, zx134, zx135, zx136, zx137, zx138, zx139, zx140, zx141, zx142, zx143, zx144, zx145, zg2, zg17, zg32, zgo3, zgo18, zgo33, zl47, zlo, zlp, zlx, zs90, zso, zsp, zsx, zt99, zto, ztp1, ztp2, ztgo, ztso, ztsp, ztsx, zc0, zi0, zc1, zi1, zc2, zi2, zc3, zi3, zc4, zi4, zc5, zi5, zin, zcl, nI_1, Bool.and_self, Bool.true_and, Bool.and_true, gm_22, gm_133, e0, nI_pred, ex, d, q_rank, d2, List.length_cons]
      · rw [if_neg (by rintro (z | z); exact h11 z; exact hlt z)]
        have d2 := c1.trans (eq_false hlt)
        obtain ⟨N', p1, p2, p3, p4⟩ := ih (x :: c) fuel (am_up N 132 c.length x) (by omega) (by simp only [List.length_cons]; omega) (by rw [up_row]; exact ⟨up1_eq _ _ _, SR_up (Nat.le_refl _) h1⟩) (by rw [am_up_ne (by decide)]; exact h2.2)
        refine ⟨N', ?_, p2, p3, fun z hz => by rw [p4 z hz, am_up_ne hz]⟩
        rw [← p1]
        have eu : ∀ hd, am_up (GM N nx fr tk vl ed (nI c.length) am hd) 132 c.length x = GM (am_up N 132 c.length x) nx fr tk vl ed (nI c.length) am hd := fun hd => gm_ou (by decide)
        simp (disch := omega) only [fxX10_settle_b0, am_gd_t, am_lt_e, am_bd_s, bi_0, bi_bz, bz0, bz1, nz2, nz10, nz100, hp_gi, hp_si, ↓reduceIte, if_true, if_false, Bool.true_eq_false, Bool.false_eq_true, eq_self, reduceCtorEq, zo0, zp0_0, zp0_1, zp0_2, zp0_4, zp0_5, zp0_6, zp0_7, zp0_8, zp0_9, zp0_10, zo1, zp1_0, zp1_5, zp1_6, zp1_9, zo16, zp16_0, zp16_5, zp16_6, zp16_9, zo31, zp31_0, zp31_5, zp31_6, zp31_9, zo46, zp46_0, zp46_1, zp46_2, zo79, zp79_0, zo83, zp83_0, zp83_1, zp83_2, zo87, zp87_0, zp87_1, zo121, zp121_0, zp121_1, zp121_2, zp121_4, zp121_5, zp121_6, zp121_7, zp121_8, zp121_16, zp121_17, zp121_18, zp121_21, zp121_23, zp121_24, zp121_25, zp121_26, zp121_27, zp121_28, zp121_29, zp121_30, zp121_31, zp121_32, zp121_33, zp121_34, zp79_2, zx2, zx13, zx14, zx15, zx17, zx28, zx29, zx30, zx32, zx43, zx44, zx45, zx47, zx78, zx80, zx84, zx85, zx86, zx88, zx89, zx90, zx99, zx120, zx122, zx123, zx124, zx125, zx126, zx127, zx128, zx129, zx130, zx131, zx132, zx133, zx134, zx135, zx136, zx137, zx138, zx139, zx140, zx141, zx142, zx143, zx144, zx145, zg2, zg17, zg32, zgo3, zgo18, zgo33, zl47, zlo, zlp, zlx, zs90, zso, zsp, zsx, zt99, zto, ztp1, ztp2, ztgo, ztso, ztsp, ztsx, zc0, zi0, zc1, zi1, zc2, zi2, zc3, zi3, zc4, zi4, zc5, zi5, zin, zcl, nI_1, Bool.and_self, Bool.true_and, Bool.and_true, gm_19, gm_22, gm_133, gm_u19, gm_u22, e0, nI_pred, ex, d, q_rank, d2, eu, List.length_cons]
theorem q_nots {lp : Nat} {nx fr tk vl ed am cd : Int32} {W : List Int32} {N : Mem} (hl : W.length ≤ 96) (h2 : SR (N 133) W) : fxX10_notsOpen (some 121) (hp lp (GM N nx fr tk vl ed cd am (nI W.length))) = some (nI (noN W), hp lp (GM N nx fr tk vl ed cd am (nI W.length))) := by
  have L : ∀ k A B fuel, W = A ++ B → A.length = k → k < fuel → fxX10_notsOpen_b4 fuel (some 121) (nI (noN B)) (nI B.length) (hp lp (GM N nx fr tk vl ed cd am (nI W.length))) = some (nI (noN W), hp lp (GM N nx fr tk vl ed cd am (nI W.length))) := by
    intro k
    induction k with
    | zero =>
      intro A B fuel hW hA hf
      obtain ⟨fuel, rfl⟩ : ∃ f, fuel = f + 1 := ⟨fuel - 1, by omega⟩
      have : A = [] := List.length_eq_zero_iff.mp hA
      subst this
      have hWB : W = B := hW
      rw [← hWB]
      simp (disch := omega) only [fxX10_notsOpen_b4, am_gd_t, am_lt_e, am_bd_s, bi_0, bi_bz, bz0, bz1, nz2, nz10, nz100, hp_gi, hp_si, ↓reduceIte, if_true, if_false, Bool.true_eq_false, Bool.false_eq_true, eq_self, reduceCtorEq, zo0, zp0_0, zp0_1, zp0_2, zp0_4, zp0_5, zp0_6, zp0_7, zp0_8, zp0_9, zp0_10, zo1, zp1_0, zp1_5, zp1_6, zp1_9, zo16, zp16_0, zp16_5, zp16_6, zp16_9, zo31, zp31_0, zp31_5, zp31_6, zp31_9, zo46, zp46_0, zp46_1, zp46_2, zo79, zp79_0, zo83, zp83_0, zp83_1, zp83_2, zo87, zp87_0, zp87_1, zo121, zp121_0, zp121_1, zp121_2, zp121_4, zp121_5, zp121_6, zp121_7, zp121_8, zp121_16, zp121_17, zp121_18, zp121_21, zp121_23, zp121_24, zp121_25, zp121_26, zp121_27, zp121_28, zp121_29, zp121_30, zp121_31, zp121_32, zp121_33, zp121_34, zp79_2, zx2, zx13, zx14, zx15, zx17, zx28, zx29, zx30, zx32, zx43, zx44, zx45, zx47, zx78, zx80, zx84, zx85, zx86, zx88, zx89, zx90, zx99, zx120, zx122, zx123, zx124, zx125, zx126, zx127, zx128, zx129, zx130, zx131, zx132, zx133, zx134, zx135, zx136, zx137, zx138, zx139, zx140, zx141, zx142, zx143, zx144, zx145, zg2, zg17, zg32, zgo3, zgo18, zgo33, zl47, zlo, zlp, zlx, zs90, zso, zsp, zsx, zt99, zto, ztp1, ztp2, ztgo, ztso, ztsp, ztsx, zc0, zi0, zc1, zi1, zc2, zi2, zc3, zi3, zc4, zi4, zc5, zi5, gm_22, zle']
    | succ k ih =>
      intro A B fuel hW hA hf
      obtain ⟨fuel, rfl⟩ : ∃ f, fuel = f + 1 := ⟨fuel - 1, by omega⟩
      obtain ⟨A', x, rfl⟩ : ∃ A' x, A = A' ++ [x] := by
        rcases List.eq_nil_or_concat A with h | ⟨A', x, h⟩
        · rw [h] at hA; simp at hA
        · exact ⟨A', x, by rw [h, List.concat_eq_append]⟩
      have hW2 : W = A' ++ (x :: B) := by rw [hW]; simp
      have hx : N 133 B.length = x := by
        rw [hW2] at h2
        exact (SR_app h2).1
      have hlen : B.length < W.length := by rw [hW2]; simp; omega
      have hI := ih A' (x :: B) fuel hW2 (by simp at hA; exact hA) (by omega)
      rw [← hI]
      have hcount : noN (x :: B) = noN B + (if x = -10 then 1 else 0) := by
        unfold noN
        rw [List.countP_cons]
        by_cases q : x = -10
        · rw [if_pos q, if_pos (beq_iff_eq.mpr q)]
        · rw [if_neg q, if_neg (fun z => q (beq_iff_eq.mp z))]
      rw [hcount, List.length_cons]
      by_cases q : x = -10
      · have d := eq_true q
        rw [if_pos q]
        simp (disch := omega) only [fxX10_notsOpen_b4, fxX10_notsOpen_b29, am_gd_t, am_lt_e, am_bd_s, bi_0, bi_bz, bz0, bz1, nz2, nz10, nz100, hp_gi, hp_si, ↓reduceIte, if_true, if_false, Bool.true_eq_false, Bool.false_eq_true, eq_self, reduceCtorEq, zo0, zp0_0, zp0_1, zp0_2, zp0_4, zp0_5, zp0_6, zp0_7, zp0_8, zp0_9, zp0_10, zo1, zp1_0, zp1_5, zp1_6, zp1_9, zo16, zp16_0, zp16_5, zp16_6, zp16_9, zo31, zp31_0, zp31_5, zp31_6, zp31_9, zo46, zp46_0, zp46_1, zp46_2, zo79, zp79_0, zo83, zp83_0, zp83_1, zp83_2, zo87, zp87_0, zp87_1, zo121, zp121_0, zp121_1, zp121_2, zp121_4, zp121_5, zp121_6, zp121_7, zp121_8, zp121_16, zp121_17, zp121_18, zp121_21, zp121_23, zp121_24, zp121_25, zp121_26, zp121_27, zp121_28, zp121_29, zp121_30, zp121_31, zp121_32, zp121_33, zp121_34, zp79_2, zx2, zx13, zx14, zx15, zx17, zx28, zx29, zx30, zx32, zx43, zx44, zx45, zx47, zx78, zx80, zx84, zx85, zx86, zx88, zx89, zx90, zx99, zx120, zx122, zx123, zx124, zx125, zx126, zx127, zx128, zx129, zx130, zx131, zx132, zx133, zx134, zx135, zx136, zx137, zx138, zx139, zx140, zx141, zx142, zx143, zx144, zx145, zg2, zg17, zg32, zgo3, zgo18, zgo33, zl47, zlo, zlp, zlx, zs90, zso, zsp, zsx, zt99, zto, ztp1, ztp2, ztgo, ztso, ztsp, ztsx, zc0, zi0, zc1, zi1, zc2, zi2, zc3, zi3, zc4, zi4, zc5, zi5, zin, zcl, nI_1, Bool.and_self, Bool.true_and, Bool.and_true, gm_22, gm_133, zle, hx, d]
      · have d := eq_false q
        rw [if_neg q]
        simp (disch := omega) only [Nat.add_zero, fxX10_notsOpen_b4, fxX10_notsOpen_b29, am_gd_t, am_lt_e, am_bd_s, bi_0, bi_bz, bz0, bz1, nz2, nz10, nz100, hp_gi, hp_si, ↓reduceIte, if_true, if_false, Bool.true_eq_false, Bool.false_eq_true, eq_self, reduceCtorEq, zo0, zp0_0, zp0_1, zp0_2, zp0_4, zp0_5, zp0_6, zp0_7, zp0_8, zp0_9, zp0_10, zo1, zp1_0, zp1_5, zp1_6, zp1_9, zo16, zp16_0, zp16_5, zp16_6, zp16_9, zo31, zp31_0, zp31_5, zp31_6, zp31_9, zo46, zp46_0, zp46_1, zp46_2, zo79, zp79_0, zo83, zp83_0, zp83_1, zp83_2, zo87, zp87_0, zp87_1, zo121, zp121_0, zp121_1, zp121_2, zp121_4, zp121_5, zp121_6, zp121_7, zp121_8, zp121_16, zp121_17, zp121_18, zp121_21, zp121_23, zp121_24, zp121_25, zp121_26, zp121_27, zp121_28, zp121_29, zp121_30, zp121_31, zp121_32, zp121_33, zp121_34, zp79_2, zx2, zx13, zx14, zx15, zx17, zx28, zx29, zx30, zx32, zx43, zx44, zx45, zx47, zx78, zx80, zx84, zx85, zx86, zx88, zx89, zx90, zx99, zx120, zx122, zx123, zx124, zx125, zx126, zx127, zx128, zx129, zx130, zx131, zx132, zx133, zx134, zx135, zx136, zx137, zx138, zx139, zx140, zx141, zx142, zx143, zx144, zx145, zg2, zg17, zg32, zgo3, zgo18, zgo33, zl47, zlo, zlp, zlx, zs90, zso, zsp, zsx, zt99, zto, ztp1, ztp2, ztgo, ztso, ztsp, ztsx, zc0, zi0, zc1, zi1, zc2, zi2, zc3, zi3, zc4, zi4, zc5, zi5, zin, zcl, nI_1, Bool.and_self, Bool.true_and, Bool.and_true, gm_22, gm_133, zle, hx, d, Int32.add_zero]
  have := L W.length W [] am_F (by simp) rfl (by unfold am_F; omega)
  simp only [fxX10_notsOpen, am_gd_t, am_lt_e, am_bd_s, bi_0, bi_bz, bz0, bz1, nz2, nz10, nz100, hp_gi, hp_si]
  exact this
theorem q_signHere {lp T1 v : Nat} {N : Mem} {nx fr ed cd am hd : Int32} (h1 : T1 ≤ 4) (hv : v ≤ 255) : fxX10_signHere (some 121) (hp lp (GM N nx fr (nI T1) (nI v) ed cd am hd)) = some ((if T1 = 3 then bs v else 0), hp lp (GM N nx fr (nI T1) (nI v) ed cd am hd)) := by
  have c3 : (nI T1 = (3 : Int32)) = (T1 = 3) := propext (nI_eq (b := 3) (by omega) (by decide))
  by_cases h3 : T1 = 3
  · have d3 := c3.trans (eq_true h3)
    rw [if_pos h3]
    have c := fun (k : Nat) (hk : k < 256) => (show (nI v = nI k) = (v = k) from propext (nI_eq (by omega) (by omega)))
    have a1 : (nI v = (38 : Int32)) = (v = 38) := c 38 (by decide)
    have a2 : (nI v = (42 : Int32)) = (v = 42) := c 42 (by decide)
    have a3 : (nI v = (43 : Int32)) = (v = 43) := c 43 (by decide)
    have a4 : (nI v = (45 : Int32)) = (v = 45) := c 45 (by decide)
    have a5 : (nI v = (47 : Int32)) = (v = 47) := c 47 (by decide)
    have a6 : (nI v = (60 : Int32)) = (v = 60) := c 60 (by decide)
    have a7 : (nI v = (61 : Int32)) = (v = 61) := c 61 (by decide)
    have a8 : (nI v = (62 : Int32)) = (v = 62) := c 62 (by decide)
    have a9 : (nI v = (124 : Int32)) = (v = 124) := c 124 (by decide)
    simp only [fxX10_signHere, am_gd_t, am_lt_e, am_bd_s, bi_0, bi_bz, bz0, bz1, nz2, nz10, nz100, hp_gi, hp_si, ↓reduceIte, if_true, if_false, Bool.true_eq_false, Bool.false_eq_true, eq_self, reduceCtorEq, zo0, zp0_0, zp0_1, zp0_2, zp0_4, zp0_5, zp0_6, zp0_7, zp0_8, zp0_9, zp0_10, zo1, zp1_0, zp1_5, zp1_6, zp1_9, zo16, zp16_0, zp16_5, zp16_6, zp16_9, zo31, zp31_0, zp31_5, zp31_6, zp31_9, zo46, zp46_0, zp46_1, zp46_2, zo79, zp79_0, zo83, zp83_0, zp83_1, zp83_2, zo87, zp87_0, zp87_1, zo121, zp121_0, zp121_1, zp121_2, zp121_4, zp121_5, zp121_6, zp121_7, zp121_8, zp121_16, zp121_17, zp121_18, zp121_21, zp121_23, zp121_24, zp121_25, zp121_26, zp121_27, zp121_28, zp121_29, zp121_30, zp121_31, zp121_32, zp121_33, zp121_34, zp79_2, zx2, zx13, zx14, zx15, zx17, zx28, zx29, zx30, zx32, zx43, zx44, zx45, zx47, zx78, zx80, zx84, zx85, zx86, zx88, zx89, zx90, zx99, zx120, zx122, zx123, zx124, zx125, zx126, zx127, zx128, zx129, zx130, zx131, zx132, zx133, zx134, zx135, zx136, zx137, zx138, zx139, zx140, zx141, zx142, zx143, zx144, zx145, zg2, zg17, zg32, zgo3, zgo18, zgo33, zl47, zlo, zlp, zlx, zs90, zso, zsp, zsx, zt99, zto, ztp1, ztp2, ztgo, ztso, ztsp, ztsx, zc0, zi0, zc1, zi1, zc2, zi2, zc3, zi3, zc4, zi4, zc5, zi5, gm_12, gm_13, d3, a1, a2, a3, a4, a5, a6, a7, a8, a9]
    unfold bs
    repeat' split
    all_goals rfl
  · have d3 := c3.trans (eq_false h3)
    rw [if_neg h3]
    simp only [fxX10_signHere, am_gd_t, am_lt_e, am_bd_s, bi_0, bi_bz, bz0, bz1, nz2, nz10, nz100, hp_gi, hp_si, ↓reduceIte, if_true, if_false, Bool.true_eq_false, Bool.false_eq_true, eq_self, reduceCtorEq, zo0, zp0_0, zp0_1, zp0_2, zp0_4, zp0_5, zp0_6, zp0_7, zp0_8, zp0_9, zp0_10, zo1, zp1_0, zp1_5, zp1_6, zp1_9, zo16, zp16_0, zp16_5, zp16_6, zp16_9, zo31, zp31_0, zp31_5, zp31_6, zp31_9, zo46, zp46_0, zp46_1, zp46_2, zo79, zp79_0, zo83, zp83_0, zp83_1, zp83_2, zo87, zp87_0, zp87_1, zo121, zp121_0, zp121_1, zp121_2, zp121_4, zp121_5, zp121_6, zp121_7, zp121_8, zp121_16, zp121_17, zp121_18, zp121_21, zp121_23, zp121_24, zp121_25, zp121_26, zp121_27, zp121_28, zp121_29, zp121_30, zp121_31, zp121_32, zp121_33, zp121_34, zp79_2, zx2, zx13, zx14, zx15, zx17, zx28, zx29, zx30, zx32, zx43, zx44, zx45, zx47, zx78, zx80, zx84, zx85, zx86, zx88, zx89, zx90, zx99, zx120, zx122, zx123, zx124, zx125, zx126, zx127, zx128, zx129, zx130, zx131, zx132, zx133, zx134, zx135, zx136, zx137, zx138, zx139, zx140, zx141, zx142, zx143, zx144, zx145, zg2, zg17, zg32, zgo3, zgo18, zgo33, zl47, zlo, zlp, zlx, zs90, zso, zsp, zsx, zt99, zto, ztp1, ztp2, ztgo, ztso, ztsp, ztsx, zc0, zi0, zc1, zi1, zc2, zi2, zc3, zi3, zc4, zi4, zc5, zi5, gm_12, d3]
theorem q_signHere' {lp : Nat} {N : Mem} {nx fr tk vl ed cd am hd : Int32} (h : ¬ tk = 3) : fxX10_signHere (some 121) (hp lp (GM N nx fr tk vl ed cd am hd)) = some (0, hp lp (GM N nx fr tk vl ed cd am hd)) := by
  have d := eq_false h
  simp only [fxX10_signHere, am_gd_t, am_lt_e, am_bd_s, bi_0, bi_bz, bz0, bz1, nz2, nz10, nz100, hp_gi, hp_si, ↓reduceIte, if_true, if_false, Bool.true_eq_false, Bool.false_eq_true, eq_self, reduceCtorEq, zo0, zp0_0, zp0_1, zp0_2, zp0_4, zp0_5, zp0_6, zp0_7, zp0_8, zp0_9, zp0_10, zo1, zp1_0, zp1_5, zp1_6, zp1_9, zo16, zp16_0, zp16_5, zp16_6, zp16_9, zo31, zp31_0, zp31_5, zp31_6, zp31_9, zo46, zp46_0, zp46_1, zp46_2, zo79, zp79_0, zo83, zp83_0, zp83_1, zp83_2, zo87, zp87_0, zp87_1, zo121, zp121_0, zp121_1, zp121_2, zp121_4, zp121_5, zp121_6, zp121_7, zp121_8, zp121_16, zp121_17, zp121_18, zp121_21, zp121_23, zp121_24, zp121_25, zp121_26, zp121_27, zp121_28, zp121_29, zp121_30, zp121_31, zp121_32, zp121_33, zp121_34, zp79_2, zx2, zx13, zx14, zx15, zx17, zx28, zx29, zx30, zx32, zx43, zx44, zx45, zx47, zx78, zx80, zx84, zx85, zx86, zx88, zx89, zx90, zx99, zx120, zx122, zx123, zx124, zx125, zx126, zx127, zx128, zx129, zx130, zx131, zx132, zx133, zx134, zx135, zx136, zx137, zx138, zx139, zx140, zx141, zx142, zx143, zx144, zx145, zg2, zg17, zg32, zgo3, zgo18, zgo33, zl47, zlo, zlp, zlx, zs90, zso, zsp, zsx, zt99, zto, ztp1, ztp2, ztgo, ztso, ztsp, ztsx, zc0, zi0, zc1, zi1, zc2, zi2, zc3, zi3, zc4, zi4, zc5, zi5, gm_12, d]
theorem q_nameOf {lp K v : Nat} {N : Mem} {nx fr tk vl ed cd am hd : Int32} (hK : K < 3) (hv : v ≤ 255) (e15 : N 121 15 = nI K) : fxX10_nameOf (some 121) (nI v) (hp lp (GM N nx fr tk vl ed cd am hd)) = some (nmS K v, hp lp (GM N nx fr tk vl ed cd am hd)) := by
  have c := fun (k : Nat) (hk : k < 256) => (show (nI v = nI k) = (v = k) from propext (nI_eq (by omega) (by omega)))
  have a1 : (nI v = (97 : Int32)) = (v = 97) := c 97 (by decide)
  have a2 : (nI v = (98 : Int32)) = (v = 98) := c 98 (by decide)
  have a3 : (nI v = (119 : Int32)) = (v = 119) := c 119 (by decide)
  have a4 : (nI v = (120 : Int32)) = (v = 120) := c 120 (by decide)
  have a5 : (nI v = (112 : Int32)) = (v = 112) := c 112 (by decide)
  have a6 : (nI v = (100 : Int32)) = (v = 100) := c 100 (by decide)
  have a7 : (nI v = (108 : Int32)) = (v = 108) := c 108 (by decide)
  unfold nmS
  rcases (show K = 0 ∨ K = 1 ∨ K = 2 by omega) with rfl | rfl | rfl
  · simp only [fxX10_nameOf, am_gd_t, am_lt_e, am_bd_s, bi_0, bi_bz, bz0, bz1, nz2, nz10, nz100, hp_gi, hp_si, ↓reduceIte, if_true, if_false, Bool.true_eq_false, Bool.false_eq_true, eq_self, reduceCtorEq, zo0, zp0_0, zp0_1, zp0_2, zp0_4, zp0_5, zp0_6, zp0_7, zp0_8, zp0_9, zp0_10, zo1, zp1_0, zp1_5, zp1_6, zp1_9, zo16, zp16_0, zp16_5, zp16_6, zp16_9, zo31, zp31_0, zp31_5, zp31_6, zp31_9, zo46, zp46_0, zp46_1, zp46_2, zo79, zp79_0, zo83, zp83_0, zp83_1, zp83_2, zo87, zp87_0, zp87_1, zo121, zp121_0, zp121_1, zp121_2, zp121_4, zp121_5, zp121_6, zp121_7, zp121_8, zp121_16, zp121_17, zp121_18, zp121_21, zp121_23, zp121_24, zp121_25, zp121_26, zp121_27, zp121_28, zp121_29, zp121_30, zp121_31, zp121_32, zp121_33, zp121_34, zp79_2, zx2, zx13, zx14, zx15, zx17, zx28, zx29, zx30, zx32, zx43, zx44, zx45, zx47, zx78, zx80, zx84, zx85, zx86, zx88, zx89, zx90, zx99, zx120, zx122, zx123, zx124, zx125, zx126, zx127, zx128, zx129, zx130, zx131, zx132, zx133, zx134, zx135, zx136, zx137, zx138, zx139, zx140, zx141, zx142, zx143, zx144, zx145, zg2, zg17, zg32, zgo3, zgo18, zgo33, zl47, zlo, zlp, zlx, zs90, zso, zsp, zsx, zt99, zto, ztp1, ztp2, ztgo, ztso, ztsp, ztsx, zc0, zi0, zc1, zi1, zc2, zi2, zc3, zi3, zc4, zi4, zc5, zi5, gm_15, e15, show (nI 0 = 0) = True from by decide, a1, a2, a3]
    repeat' split
    all_goals first | rfl | omega
  · simp only [fxX10_nameOf, am_gd_t, am_lt_e, am_bd_s, bi_0, bi_bz, bz0, bz1, nz2, nz10, nz100, hp_gi, hp_si, ↓reduceIte, if_true, if_false, Bool.true_eq_false, Bool.false_eq_true, eq_self, reduceCtorEq, zo0, zp0_0, zp0_1, zp0_2, zp0_4, zp0_5, zp0_6, zp0_7, zp0_8, zp0_9, zp0_10, zo1, zp1_0, zp1_5, zp1_6, zp1_9, zo16, zp16_0, zp16_5, zp16_6, zp16_9, zo31, zp31_0, zp31_5, zp31_6, zp31_9, zo46, zp46_0, zp46_1, zp46_2, zo79, zp79_0, zo83, zp83_0, zp83_1, zp83_2, zo87, zp87_0, zp87_1, zo121, zp121_0, zp121_1, zp121_2, zp121_4, zp121_5, zp121_6, zp121_7, zp121_8, zp121_16, zp121_17, zp121_18, zp121_21, zp121_23, zp121_24, zp121_25, zp121_26, zp121_27, zp121_28, zp121_29, zp121_30, zp121_31, zp121_32, zp121_33, zp121_34, zp79_2, zx2, zx13, zx14, zx15, zx17, zx28, zx29, zx30, zx32, zx43, zx44, zx45, zx47, zx78, zx80, zx84, zx85, zx86, zx88, zx89, zx90, zx99, zx120, zx122, zx123, zx124, zx125, zx126, zx127, zx128, zx129, zx130, zx131, zx132, zx133, zx134, zx135, zx136, zx137, zx138, zx139, zx140, zx141, zx142, zx143, zx144, zx145, zg2, zg17, zg32, zgo3, zgo18, zgo33, zl47, zlo, zlp, zlx, zs90, zso, zsp, zsx, zt99, zto, ztp1, ztp2, ztgo, ztso, ztsp, ztsx, zc0, zi0, zc1, zi1, zc2, zi2, zc3, zi3, zc4, zi4, zc5, zi5, gm_15, e15, show (nI 1 = 0) = False from by decide, show (nI 1 = 1) = True from by decide, a4, a5]
    repeat' split
    all_goals first | rfl | omega
  · simp only [fxX10_nameOf, am_gd_t, am_lt_e, am_bd_s, bi_0, bi_bz, bz0, bz1, nz2, nz10, nz100, hp_gi, hp_si, ↓reduceIte, if_true, if_false, Bool.true_eq_false, Bool.false_eq_true, eq_self, reduceCtorEq, zo0, zp0_0, zp0_1, zp0_2, zp0_4, zp0_5, zp0_6, zp0_7, zp0_8, zp0_9, zp0_10, zo1, zp1_0, zp1_5, zp1_6, zp1_9, zo16, zp16_0, zp16_5, zp16_6, zp16_9, zo31, zp31_0, zp31_5, zp31_6, zp31_9, zo46, zp46_0, zp46_1, zp46_2, zo79, zp79_0, zo83, zp83_0, zp83_1, zp83_2, zo87, zp87_0, zp87_1, zo121, zp121_0, zp121_1, zp121_2, zp121_4, zp121_5, zp121_6, zp121_7, zp121_8, zp121_16, zp121_17, zp121_18, zp121_21, zp121_23, zp121_24, zp121_25, zp121_26, zp121_27, zp121_28, zp121_29, zp121_30, zp121_31, zp121_32, zp121_33, zp121_34, zp79_2, zx2, zx13, zx14, zx15, zx17, zx28, zx29, zx30, zx32, zx43, zx44, zx45, zx47, zx78, zx80, zx84, zx85, zx86, zx88, zx89, zx90, zx99, zx120, zx122, zx123, zx124, zx125, zx126, zx127, zx128, zx129, zx130, zx131, zx132, zx133, zx134, zx135, zx136, zx137, zx138, zx139, zx140, zx141, zx142, zx143, zx144, zx145, zg2, zg17, zg32, zgo3, zgo18, zgo33, zl47, zlo, zlp, zlx, zs90, zso, zsp, zsx, zt99, zto, ztp1, ztp2, ztgo, ztso, ztsp, ztsx, zc0, zi0, zc1, zi1, zc2, zi2, zc3, zi3, zc4, zi4, zc5, zi5, gm_15, e15, show (nI 2 = 0) = False from by decide, show (nI 2 = 1) = False from by decide, a6, a7]
    repeat' split
    all_goals first | rfl | omega
