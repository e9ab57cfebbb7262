/-! ===== laws worked out ===== -/
def twoS (m a b : Int32) : Int32 := if m = (-8) then a * b else (if m = (-7) then a - b else (if m = (-6) then a + b else (if m = (-5) then (if a ≤ b then 0 else 1) else (if m = (-4) then (if a = b then 1 else 0) else (if m = (-3) then (if b ≤ a then 0 else 1) else (if m = (-2) then (if a = 0 then 0 else (if b = 0 then 0 else 1)) else (if m = (-1) then (if a = 0 then (if b = 0 then 0 else 1) else 1) else (if b = 0 then 0 else a / b))))))))
theorem q_two (m a b : Int32) (h : am_H) : fxX10_two m a b h = some (twoS m a b, h) := by
  unfold fxX10_two fxX10_two_b56 twoS
  repeat' split
  all_goals first | rfl | (rename_i hb; rw [nz_of hb, am_gd_t])
def sgnL : List (Int32 × Int32) := [(-124, -1), (-38, -2), (-60, -3), (-61, -4), (-62, -5), (-43, -6), (-45, -7), (-42, -8), (-47, -9)]
theorem q_worked {c m : Int32} (hc : (c, m) ∈ sgnL) (a b : Int32) (h : am_H) : fxX0_worked (-c) a b h = some (twoS m a b, h) := by
  simp only [sgnL, List.mem_cons, Prod.mk.injEq, List.mem_nil_iff, or_false] at hc
  rcases hc with ⟨rfl, rfl⟩ | ⟨rfl, rfl⟩ | ⟨rfl, rfl⟩ | ⟨rfl, rfl⟩ | ⟨rfl, rfl⟩ | ⟨rfl, rfl⟩ | ⟨rfl, rfl⟩ | ⟨rfl, rfl⟩ | ⟨rfl, rfl⟩
  · rw [show (-(-124) : Int32) = 124 from by decide]
    show (if a = 0 then (if b = 0 then (some ((0 : Int32), h)) else (some (1, h))) else (some (1, h))) = some ((if a = 0 then (if b = 0 then 0 else 1) else 1), h)
    repeat' split
    all_goals rfl
  · rw [show (-(-38) : Int32) = 38 from by decide]
    show (if a = 0 then (some ((0 : Int32), h)) else (if b = 0 then (some ((0 : Int32), h)) else (some ((1 : Int32), h)))) = some ((if a = 0 then 0 else (if b = 0 then 0 else 1)), h)
    repeat' split
    all_goals rfl
  · rw [show (-(-60) : Int32) = 60 from by decide]
    show (if b ≤ a then (some ((0 : Int32), h)) else (some ((1 : Int32), h))) = some ((if b ≤ a then 0 else 1), h)
    split <;> rfl
  · rw [show (-(-61) : Int32) = 61 from by decide]
    show (if a = b then (some ((1 : Int32), h)) else (some ((0 : Int32), h))) = some ((if a = b then 1 else 0), h)
    split <;> rfl
  · rw [show (-(-62) : Int32) = 62 from by decide]
    show (if a ≤ b then (some ((0 : Int32), h)) else (some ((1 : Int32), h))) = some ((if a ≤ b then 0 else 1), h)
    split <;> rfl
  · rw [show (-(-43) : Int32) = 43 from by decide]; rfl
  · rw [show (-(-45) : Int32) = 45 from by decide]; rfl
  · rw [show (-(-42) : Int32) = 42 from by decide]; rfl
  · rw [show (-(-47) : Int32) = 47 from by decide]
    show (if b = 0 then (some ((0 : Int32), h)) else (am_gd (am_nz b) (some ((a / b), h)))) = some ((if b = 0 then 0 else a / b), h)
    split
    · rfl
    · next hb => rw [nz_of hb, am_gd_t]
/-- one code on the stack, top first -/
def evS (f : Nat → Int32) (m : Int32) (st : List Int32) : List Int32 :=
  if 0 ≤ m then (if 10000 ≤ m then f (cn (m - 10000)) else m) :: st
  else if m = -10 then (match st with
    | a :: r => (if a = 0 then 1 else 0) :: r
    | [] => [])
  else (match st with
    | b :: a :: r => twoS m a b :: r
    | _ => [])
def evN (f : Nat → Int32) (code : Nat → Int32) : Nat → List Int32
  | 0 => []
  | k + 1 => evS f (code k) (evN f code k)
def SR (a : Nat → Int32) : List Int32 → Prop
  | [] => True
  | x :: r => a r.length = x ∧ SR a r
theorem SR_up {a : Nat → Int32} {j : Nat} {v : Int32} : ∀ {st : List Int32}, st.length ≤ j → SR a st → SR (up1 a j v) st := by
  intro st
  induction st with
  | nil => intro _ _; trivial
  | cons x r ih =>
    intro h1 h2
    simp only [List.length_cons] at h1
    exact ⟨by rw [up1_ne (by omega)]; exact h2.1, ih (by omega) h2.2⟩
def okS (m : Int32) (d : Nat) : Prop := if 0 ≤ m then True else if m = -10 then 1 ≤ d else 2 ≤ d
theorem evS_len {f : Nat → Int32} {m : Int32} {st : List Int32} (h : okS m st.length) : (evS f m st).length = if 0 ≤ m then st.length + 1 else if m = -10 then st.length else st.length - 1 := by
  unfold okS at h
  unfold evS
  by_cases h1 : 0 ≤ m
  · simp only [h1, if_true, List.length_cons]
  · simp only [h1, if_false] at h ⊢
    by_cases h2 : m = -10
    · simp only [h2, if_true] at h ⊢
      match st, h with
      | a :: r, _ => rfl
    · simp only [h2, if_false] at h ⊢
      match st, h with
      | b :: a :: r, _ => rfl
theorem pdep_ok {code : Nat → Int32} {k d d' : Nat} (h : pdep code k = some d) (h' : pdep code (k + 1) = some d') : okS (code k) d ∧ d' = if 0 ≤ code k then d + 1 else if code k = -10 then d else d - 1 := by
  unfold pdep at h'
  rw [h] at h'
  unfold okS
  by_cases h1 : 0 ≤ code k
  · simp only [h1, if_true, Option.some.injEq] at h' ⊢
    exact ⟨trivial, h'.symm⟩
  · simp only [h1, if_false] at h' ⊢
    by_cases h2 : code k = -10
    · simp only [h2, if_true] at h' ⊢
      split at h'
      · next q => exact ⟨q, (Option.some.inj h').symm⟩
      · exact absurd h' (by simp)
    · simp only [h2, if_false] at h' ⊢
      split at h'
      · next q => exact ⟨q, (Option.some.inj h').symm⟩
      · exact absurd h' (by simp)
theorem pdep_some {code : Nat → Int32} : ∀ {n d : Nat}, pdep code n = some d → ∀ k, k ≤ n → ∃ d', pdep code k = some d' := by
  intro n
  induction n with
  | zero =>
    intro d h k hk
    obtain rfl : k = 0 := by omega
    exact ⟨d, h⟩
  | succ n ih =>
    intro d h k hk
    by_cases e : k = n + 1
    · subst e; exact ⟨d, h⟩
    · have : ∃ d', pdep code n = some d' := by
        unfold pdep at h
        cases hd : pdep code n with
        | none => rw [hd] at h; simp at h
        | some d' => exact ⟨d', rfl⟩
      obtain ⟨d', h'⟩ := this
      exact ih h' k (by omega)
theorem evN_len {f : Nat → Int32} {code : Nat → Int32} : ∀ {k d : Nat}, pdep code k = some d → (evN f code k).length = d ∧ d ≤ k := by
  intro k
  induction k with
  | zero =>
    intro d h
    have : d = 0 := (Option.some.inj h).symm
    subst this
    exact ⟨rfl, Nat.le_refl _⟩
  | succ k ih =>
    intro d h
    obtain ⟨d', h'⟩ := pdep_some h k (by omega)
    obtain ⟨h1, h2⟩ := ih h'
    obtain ⟨h3, h4⟩ := pdep_ok h' h
    rw [← h1] at h3
    refine ⟨?_, ?_⟩
    · show (evS f (code k) (evN f code k)).length = d
      rw [evS_len h3, h4, h1]
    · rw [h4]; split
      · omega
      · split <;> omega
theorem evN_ok {f : Nat → Int32} {code : Nat → Int32} {n : Nat} (h : pdep code n = some 1) {k : Nat} (hk : k < n) : okS (code k) (evN f code k).length ∧ (evN f code k).length ≤ k := by
  obtain ⟨d, hd⟩ := pdep_some h k (by omega)
  obtain ⟨d', hd'⟩ := pdep_some h (k + 1) (by omega)
  obtain ⟨h1, h2⟩ := evN_len (f := f) hd
  rw [h1]
  exact ⟨(pdep_ok hd hd').1, h2⟩
theorem evN_one {f : Nat → Int32} {code : Nat → Int32} {n : Nat} (h : pdep code n = some 1) : ∃ v, evN f code n = [v] := by
  obtain ⟨h1, -⟩ := evN_len (f := f) h
  match hq : evN f code n, h1 with
  | [v], _ => exact ⟨v, rfl⟩
/-- a code of the reference, by what it is -/
theorem crel_cases {c m : Int32} (h : crel c m) : (∃ v, v ≤ 9999 ∧ c = nI v ∧ m = nI v) ∨ (∃ i, i < 3 ∧ c = -1 - nI i ∧ m = 10000 + nI i) ∨ (c = -33 ∧ m = -10) ∨ (c, m) ∈ sgnL := by
  rcases h with h | h | h
  · exact Or.inl h
  · exact Or.inr (Or.inl h)
  · rw [List.mem_cons] at h
    rcases h with h | h
    · exact Or.inr (Or.inr (Or.inl (Prod.mk.inj h)))
    · exact Or.inr (Or.inr (Or.inr h))
theorem sgn_neg {c m : Int32} (hc : (c, m) ∈ sgnL) : (c < -3) = True ∧ (c = -33) = False ∧ (0 ≤ m) = False ∧ (m < 0) = True ∧ (m = -10) = False := by
  simp only [sgnL, List.mem_cons, Prod.mk.injEq, List.mem_nil_iff, or_false] at hc
  rcases hc with ⟨rfl, rfl⟩ | ⟨rfl, rfl⟩ | ⟨rfl, rfl⟩ | ⟨rfl, rfl⟩ | ⟨rfl, rfl⟩ | ⟨rfl, rfl⟩ | ⟨rfl, rfl⟩ | ⟨rfl, rfl⟩ | ⟨rfl, rfl⟩ <;> decide
def f3 (x y z : Int32) (i : Nat) : Int32 := match i with
  | 0 => x | 1 => y | _ => z
theorem m10k (i : Nat) : (10000 : Int32) + nI i = nI (10000 + i) := nI_add 10000 i
theorem m10s (i : Nat) : nI (10000 + i) - 10000 = nI i := by
  rw [show (10000 : Int32) = nI 10000 from rfl, pk_sub (by omega), show 10000 + i - 10000 = i by omega]
theorem give_step {lp t n k fuel : Nat} {M : Mem} {x y z m : Int32} {st : List Int32} (ht : t < 15) (hn : n ≤ 96) (e3 : M (48 + 2 * t) 3 = nI n) (hk : k < n) (hd : st.length ≤ k) (hc : crel (M (49 + 2 * t) k) m) (hok : okS m st.length) (hS : SR (M 78) st) : ∃ M', fxX0_give_b13 (fuel + 1) (some 46) x y z (some (48 + 2 * t)) (nI st.length) (nI k) (hp lp M) = fxX0_give_b13 fuel (some 46) x y z (some (48 + 2 * t)) (nI (evS (f3 x y z) m st).length) (nI (k + 1)) (hp lp M') ∧ SR (M' 78) (evS (f3 x y z) m st) ∧ ∀ w, w ≠ 78 → M' w = M w := by
  have c1 : (nI n ≤ nI k) = False := zle (by omega) (by omega)
  have c2 : ((96 : Int32) ≤ nI st.length) = False := zle (n := 96) (by omega) (by decide)
  rcases crel_cases hc with ⟨v, hv, ec, em⟩ | ⟨i, hi, ec, em⟩ | ⟨ec, em⟩ | hm
  · have p0 : ((0 : Int32) ≤ m) = True := by rw [em]; exact eq_true (nI_pos' (by omega))
    have p1 : ((10000 : Int32) ≤ m) = False := by rw [em]; exact eq_false (nI_ge (b := 10000) (by omega) (by decide))
    have hp0 : (0 : Int32) ≤ nI v := nI_pos' (by omega)
    have q3 : (nI v < -3) = False := eq_false (fun q => Int32.not_le.mpr (Int32.lt_of_lt_of_le q (by decide : (-3 : Int32) ≤ 0)) hp0)
    have q4 : (nI v = -3) = False := eq_false (fun q => by rw [q] at hp0; revert hp0; decide)
    have q5 : (nI v = -2) = False := eq_false (fun q => by rw [q] at hp0; revert hp0; decide)
    have q6 : (nI v = -1) = False := eq_false (fun q => by rw [q] at hp0; revert hp0; decide)
    have es : evS (f3 x y z) m st = nI v :: st := by unfold evS; simp only [p0, p1, ↓reduceIte, if_true, if_false, Bool.true_eq_false, Bool.false_eq_true, eq_self, reduceCtorEq]; rw [em]
    rw [es]
    refine ⟨am_up M 78 st.length (nI v), ?_, ?_, fun w hw => am_up_ne hw⟩
    · simp (disch := omega) only [fxX0_give_b13, fxX0_give_b151, fxX0_operand, am_gd_t, am_lt_e, am_bd_s, bi_0, bi_bz, bz0, bz1, nz2, nz10, nz100, hp_gi, hp_si, ↓reduceIte, if_true, if_false, Bool.true_eq_false, Bool.false_eq_true, eq_self, reduceCtorEq, zo0, zp0_0, zp0_1, zp0_2, zp0_4, zp0_5, zp0_6, zp0_7, zp0_8, zp0_9, zp0_10, zo1, zp1_0, zp1_5, zp1_6, zp1_9, zo16, zp16_0, zp16_5, zp16_6, zp16_9, zo31, zp31_0, zp31_5, zp31_6, zp31_9, zo46, zp46_0, zp46_1, zp46_2, zo79, zp79_0, zo83, zp83_0, zp83_1, zp83_2, zo87, zp87_0, zp87_1, zo121, zp121_0, zp121_1, zp121_2, zp121_4, zp121_5, zp121_6, zp121_7, zp121_8, zp121_16, zp121_17, zp121_18, zp121_21, zp121_23, zp121_24, zp121_25, zp121_26, zp121_27, zp121_28, zp121_29, zp121_30, zp121_31, zp121_32, zp121_33, zp121_34, zp79_2, zx2, zx13, zx14, zx15, zx17, zx28, zx29, zx30, zx32, zx43, zx44, zx45, zx47, zx78, zx80, zx84, zx85, zx86, zx88, zx89, zx90, zx99, zx120, zx122, zx123, zx124, zx125, zx126, zx127, zx128, zx129, zx130, zx131, zx132, zx133, zx134, zx135, zx136, zx137, zx138, zx139, zx140, zx141, zx142, zx143, zx144, zx145, zg2, zg17, zg32, zgo3, zgo18, zgo33, zl47, zlo, zlp, zlx, zs90, zso, zsp, zsx, zt99, zto, ztp1, ztp2, ztgo, ztso, ztsp, ztsx, zc0, zi0, zc1, zi1, zc2, zi2, zc3, zi3, zc4, zi4, zc5, zi5, zin, zcl, nI_1, Bool.and_self, Bool.true_and, Bool.and_true, e3, c1, c2, ec, q3, q4, q5, q6, List.length_cons]
    · rw [up_row]
      exact ⟨up1_eq _ _ _, SR_up (Nat.le_refl _) hS⟩
  · have p0 : ((0 : Int32) ≤ m) = True := by rw [em, m10k]; exact eq_true (nI_pos' (by omega))
    have p1 : ((10000 : Int32) ≤ m) = True := by rw [em, m10k]; exact eq_true (nI_le (a := 10000) (by omega) (by omega))
    have es : evS (f3 x y z) m st = f3 x y z i :: st := by unfold evS; simp only [p0, p1, ↓reduceIte, if_true, if_false, Bool.true_eq_false, Bool.false_eq_true, eq_self, reduceCtorEq]; rw [em, m10k, m10s, cn_nI (by omega)]
    rw [es]
    refine ⟨am_up M 78 st.length (f3 x y z i), ?_, ?_, fun w hw => am_up_ne hw⟩
    · have ho : ∀ h, fxX0_operand (-1 - nI i) x y z h = some (f3 x y z i, h) := by
        intro h
        rcases (show i = 0 ∨ i = 1 ∨ i = 2 by omega) with rfl | rfl | rfl <;> rfl
      have q3 : (-1 - nI i < (-3 : Int32)) = False := by
        rcases (show i = 0 ∨ i = 1 ∨ i = 2 by omega) with rfl | rfl | rfl <;> decide
      simp (disch := omega) only [fxX0_give_b13, fxX0_give_b151, ho, am_gd_t, am_lt_e, am_bd_s, bi_0, bi_bz, bz0, bz1, nz2, nz10, nz100, hp_gi, hp_si, ↓reduceIte, if_true, if_false, Bool.true_eq_false, Bool.false_eq_true, eq_self, reduceCtorEq, zo0, zp0_0, zp0_1, zp0_2, zp0_4, zp0_5, zp0_6, zp0_7, zp0_8, zp0_9, zp0_10, zo1, zp1_0, zp1_5, zp1_6, zp1_9, zo16, zp16_0, zp16_5, zp16_6, zp16_9, zo31, zp31_0, zp31_5, zp31_6, zp31_9, zo46, zp46_0, zp46_1, zp46_2, zo79, zp79_0, zo83, zp83_0, zp83_1, zp83_2, zo87, zp87_0, zp87_1, zo121, zp121_0, zp121_1, zp121_2, zp121_4, zp121_5, zp121_6, zp121_7, zp121_8, zp121_16, zp121_17, zp121_18, zp121_21, zp121_23, zp121_24, zp121_25, zp121_26, zp121_27, zp121_28, zp121_29, zp121_30, zp121_31, zp121_32, zp121_33, zp121_34, zp79_2, zx2, zx13, zx14, zx15, zx17, zx28, zx29, zx30, zx32, zx43, zx44, zx45, zx47, zx78, zx80, zx84, zx85, zx86, zx88, zx89, zx90, zx99, zx120, zx122, zx123, zx124, zx125, zx126, zx127, zx128, zx129, zx130, zx131, zx132, zx133, zx134, zx135, zx136, zx137, zx138, zx139, zx140, zx141, zx142, zx143, zx144, zx145, zg2, zg17, zg32, zgo3, zgo18, zgo33, zl47, zlo, zlp, zlx, zs90, zso, zsp, zsx, zt99, zto, ztp1, ztp2, ztgo, ztso, ztsp, ztsx, zc0, zi0, zc1, zi1, zc2, zi2, zc3, zi3, zc4, zi4, zc5, zi5, zin, zcl, nI_1, Bool.and_self, Bool.true_and, Bool.and_true, e3, c1, c2, ec, q3, List.length_cons]
    · rw [up_row]
      exact ⟨up1_eq _ _ _, SR_up (Nat.le_refl _) hS⟩
  · subst em
    match st, hok, hS with
    | a :: r, _, hS =>
      simp only [List.length_cons] at c2 hd
      have es : evS (f3 x y z) (-10) (a :: r) = (if a = 0 then 1 else 0) :: r := rfl
      rw [es]
      refine ⟨am_up M 78 r.length (if a = 0 then 1 else 0), ?_, ?_, fun w hw => am_up_ne hw⟩
      · have e0 := hS.1
        have l1 : (nI (r.length + 1) < (1 : Int32)) = False := eq_false (nI_nlt (b := 1) (by omega) (by omega))
        simp (disch := omega) only [fxX0_give_b13, fxX0_give_b151, fxX0_give_b107, am_gd_t, am_lt_e, am_bd_s, bi_0, bi_bz, bz0, bz1, nz2, nz10, nz100, hp_gi, hp_si, ↓reduceIte, if_true, if_false, Bool.true_eq_false, Bool.false_eq_true, eq_self, reduceCtorEq, zo0, zp0_0, zp0_1, zp0_2, zp0_4, zp0_5, zp0_6, zp0_7, zp0_8, zp0_9, zp0_10, zo1, zp1_0, zp1_5, zp1_6, zp1_9, zo16, zp16_0, zp16_5, zp16_6, zp16_9, zo31, zp31_0, zp31_5, zp31_6, zp31_9, zo46, zp46_0, zp46_1, zp46_2, zo79, zp79_0, zo83, zp83_0, zp83_1, zp83_2, zo87, zp87_0, zp87_1, zo121, zp121_0, zp121_1, zp121_2, zp121_4, zp121_5, zp121_6, zp121_7, zp121_8, zp121_16, zp121_17, zp121_18, zp121_21, zp121_23, zp121_24, zp121_25, zp121_26, zp121_27, zp121_28, zp121_29, zp121_30, zp121_31, zp121_32, zp121_33, zp121_34, zp79_2, zx2, zx13, zx14, zx15, zx17, zx28, zx29, zx30, zx32, zx43, zx44, zx45, zx47, zx78, zx80, zx84, zx85, zx86, zx88, zx89, zx90, zx99, zx120, zx122, zx123, zx124, zx125, zx126, zx127, zx128, zx129, zx130, zx131, zx132, zx133, zx134, zx135, zx136, zx137, zx138, zx139, zx140, zx141, zx142, zx143, zx144, zx145, zg2, zg17, zg32, zgo3, zgo18, zgo33, zl47, zlo, zlp, zlx, zs90, zso, zsp, zsx, zt99, zto, ztp1, ztp2, ztgo, ztso, ztsp, ztsx, zc0, zi0, zc1, zi1, zc2, zi2, zc3, zi3, zc4, zi4, zc5, zi5, zin, zcl, nI_1, Bool.and_self, Bool.true_and, Bool.and_true, e3, c1, c2, ec, List.length_cons, show ((-33 : Int32) < -3) = True from by decide, l1, nI_pred, e0]
        split <;> rfl
      · rw [up_row]
        exact ⟨up1_eq _ _ _, SR_up (Nat.le_refl _) hS.2⟩
  · obtain ⟨s1, s2, s3, s4, s5⟩ := sgn_neg hm
    unfold okS at hok
    simp only [s3, s5, if_false] at hok
    match st, hok, hS with
    | b :: a :: r, _, hS =>
      simp only [List.length_cons] at c2 hd
      have es : evS (f3 x y z) m (b :: a :: r) = twoS m a b :: r := by unfold evS; simp only [s3, s5, ↓reduceIte, if_true, if_false, Bool.true_eq_false, Bool.false_eq_true, eq_self, reduceCtorEq]
      rw [es]
      refine ⟨am_up M 78 r.length (twoS m a b), ?_, ?_, fun w hw => am_up_ne hw⟩
      · have e0 : M 78 (r.length + 1) = b := hS.1
        have e1 : M 78 r.length = a := hS.2.1
        have l1 : (nI (r.length + 1 + 1) < (2 : Int32)) = False := eq_false (nI_nlt (b := 2) (by omega) (by omega))
        simp (disch := omega) only [fxX0_give_b13, fxX0_give_b151, am_gd_t, am_lt_e, am_bd_s, bi_0, bi_bz, bz0, bz1, nz2, nz10, nz100, hp_gi, hp_si, ↓reduceIte, if_true, if_false, Bool.true_eq_false, Bool.false_eq_true, eq_self, reduceCtorEq, zo0, zp0_0, zp0_1, zp0_2, zp0_4, zp0_5, zp0_6, zp0_7, zp0_8, zp0_9, zp0_10, zo1, zp1_0, zp1_5, zp1_6, zp1_9, zo16, zp16_0, zp16_5, zp16_6, zp16_9, zo31, zp31_0, zp31_5, zp31_6, zp31_9, zo46, zp46_0, zp46_1, zp46_2, zo79, zp79_0, zo83, zp83_0, zp83_1, zp83_2, zo87, zp87_0, zp87_1, zo121, zp121_0, zp121_1, zp121_2, zp121_4, zp121_5, zp121_6, zp121_7, zp121_8, zp121_16, zp121_17, zp121_18, zp121_21, zp121_23, zp121_24, zp121_25, zp121_26, zp121_27, zp121_28, zp121_29, zp121_30, zp121_31, zp121_32, zp121_33, zp121_34, zp79_2, zx2, zx13, zx14, zx15, zx17, zx28, zx29, zx30, zx32, zx43, zx44, zx45, zx47, zx78, zx80, zx84, zx85, zx86, zx88, zx89, zx90, zx99, zx120, zx122, zx123, zx124, zx125, zx126, zx127, zx128, zx129, zx130, zx131, zx132, zx133, zx134, zx135, zx136, zx137, zx138, zx139, zx140, zx141, zx142, zx143, zx144, zx145, zg2, zg17, zg32, zgo3, zgo18, zgo33, zl47, zlo, zlp, zlx, zs90, zso, zsp, zsx, zt99, zto, ztp1, ztp2, ztgo, ztso, ztsp, ztsx, zc0, zi0, zc1, zi1, zc2, zi2, zc3, zi3, zc4, zi4, zc5, zi5, zin, zcl, nI_1, Bool.and_self, Bool.true_and, Bool.and_true, e3, c1, c2, s1, s2, List.length_cons, l1, nI_pred, pk_m1, e0, e1, q_worked hm]
      · rw [up_row]
        exact ⟨up1_eq _ _ _, SR_up (by omega) hS.2.2⟩
/-- text t of the array g, with these facts -/
def evalS (g : Nat → Int32) (t : Nat) (f : Nat → Int32) : Int32 := (evN f (fun k => g (104 + 96 * t + k)) (cn (g (76 + 2 * t)) % 1000)).headD 0
theorem q_give {lp t : Nat} {M : Mem} {g : Nat → Int32} (ht : t < 15) (hT : TR M t g) (x y z : Int32) : ∃ M', fxX0_give (some 46) (nI t) x y z (hp lp M) = some (evalS g t (f3 x y z), hp lp M') ∧ ∀ w, w ≠ 78 → M' w = M w := by
  obtain ⟨K, n, o, h1, h2, h3, h4, h5, h6, h7, h8, h9, h10, -⟩ := hT
  have hn : cn (g (76 + 2 * t)) % 1000 = n := by rw [h4, cn_nI (by omega)]; omega
  generalize hcode : (fun k => g (104 + 96 * t + k)) = code at h10
  have h9' : ∀ k, k < n → crel (M (49 + 2 * t) k) (code k) := fun k hk => by rw [← hcode]; exact h9 k hk
  have L : ∀ j k fuel (M1 : Mem), k + j = n → j < fuel → SR (M1 78) (evN (f3 x y z) code k) → (∀ w, w ≠ 78 → M1 w = M w) → ∃ M', fxX0_give_b13 fuel (some 46) x y z (some (48 + 2 * t)) (nI (evN (f3 x y z) code k).length) (nI k) (hp lp M1) = some ((evN (f3 x y z) code n).headD 0, hp lp M') ∧ ∀ w, w ≠ 78 → M' w = M w := by
    intro j
    induction j with
    | zero =>
      intro k fuel M1 hk hf hS hr
      obtain ⟨fuel, rfl⟩ : ∃ f, fuel = f + 1 := ⟨fuel - 1, by omega⟩
      obtain rfl : k = n := by omega
      obtain ⟨v, hv⟩ := evN_one (f := f3 x y z) h10
      rw [hv] at hS ⊢
      refine ⟨M1, ?_, hr⟩
      have e3 : M1 (48 + 2 * t) 3 = nI k := by rw [hr _ (by omega)]; exact h8
      have e0 : M1 78 0 = v := hS.1
      simp (disch := omega) only [fxX0_give_b13, fxX0_give_b157, am_gd_t, am_lt_e, am_bd_s, bi_0, bi_bz, bz0, bz1, nz2, nz10, nz100, hp_gi, hp_si, ↓reduceIte, if_true, if_false, Bool.true_eq_false, Bool.false_eq_true, eq_self, reduceCtorEq, zo0, zp0_0, zp0_1, zp0_2, zp0_4, zp0_5, zp0_6, zp0_7, zp0_8, zp0_9, zp0_10, zo1, zp1_0, zp1_5, zp1_6, zp1_9, zo16, zp16_0, zp16_5, zp16_6, zp16_9, zo31, zp31_0, zp31_5, zp31_6, zp31_9, zo46, zp46_0, zp46_1, zp46_2, zo79, zp79_0, zo83, zp83_0, zp83_1, zp83_2, zo87, zp87_0, zp87_1, zo121, zp121_0, zp121_1, zp121_2, zp121_4, zp121_5, zp121_6, zp121_7, zp121_8, zp121_16, zp121_17, zp121_18, zp121_21, zp121_23, zp121_24, zp121_25, zp121_26, zp121_27, zp121_28, zp121_29, zp121_30, zp121_31, zp121_32, zp121_33, zp121_34, zp79_2, zx2, zx13, zx14, zx15, zx17, zx28, zx29, zx30, zx32, zx43, zx44, zx45, zx47, zx78, zx80, zx84, zx85, zx86, zx88, zx89, zx90, zx99, zx120, zx122, zx123, zx124, zx125, zx126, zx127, zx128, zx129, zx130, zx131, zx132, zx133, zx134, zx135, zx136, zx137, zx138, zx139, zx140, zx141, zx142, zx143, zx144, zx145, zg2, zg17, zg32, zgo3, zgo18, zgo33, zl47, zlo, zlp, zlx, zs90, zso, zsp, zsx, zt99, zto, ztp1, ztp2, ztgo, ztso, ztsp, ztsx, zc0, zi0, zc1, zi1, zc2, zi2, zc3, zi3, zc4, zi4, zc5, zi5, zin, zcl, nI_1, Bool.and_self, Bool.true_and, Bool.and_true, e3, zle', show am_in (0 : Int32) 96 = true from rfl, e0, List.headD_cons]
    | succ j ih =>
      intro k fuel M1 hk hf hS hr
      obtain ⟨fuel, rfl⟩ : ∃ f, fuel = f + 1 := ⟨fuel - 1, by omega⟩
      obtain ⟨o1, o2⟩ := evN_ok (f := f3 x y z) h10 (show k < n by omega)
      obtain ⟨M2, q1, q2, q3⟩ := give_step (lp := lp) (fuel := fuel) (x := x) (y := y) (z := z) ht h2 (by rw [hr _ (by omega)]; exact h8) (show k < n by omega) o2 (by rw [hr _ (by omega)]; exact h9' k (by omega)) o1 hS
      obtain ⟨M', r1, r2⟩ := ih (k + 1) fuel M2 (by omega) (by omega) q2 (fun w hw => by rw [q3 w hw, hr w hw])
      exact ⟨M', by rw [q1]; exact r1, r2⟩
  obtain ⟨M', q1, q2⟩ := L n 0 am_F M (by omega) (by unfold am_F; omega) trivial (fun _ _ => rfl)
  refine ⟨M', ?_, q2⟩
  unfold evalS
  rw [hn, hcode, ← q1]
  simp (disch := omega) only [fxX0_give, q_lawOf, am_gd_t, am_lt_e, am_bd_s, bi_0, bi_bz, bz0, bz1, nz2, nz10, nz100, hp_gi, hp_si, ↓reduceIte, if_true, if_false, Bool.true_eq_false, Bool.false_eq_true, eq_self, reduceCtorEq, zo0, zp0_0, zp0_1, zp0_2, zp0_4, zp0_5, zp0_6, zp0_7, zp0_8, zp0_9, zp0_10, zo1, zp1_0, zp1_5, zp1_6, zp1_9, zo16, zp16_0, zp16_5, zp16_6, zp16_9, zo31, zp31_0, zp31_5, zp31_6, zp31_9, zo46, zp46_0, zp46_1, zp46_2, zo79, zp79_0, zo83, zp83_0, zp83_1, zp83_2, zo87, zp87_0, zp87_1, zo121, zp121_0, zp121_1, zp121_2, zp121_4, zp121_5, zp121_6, zp121_7, zp121_8, zp121_16, zp121_17, zp121_18, zp121_21, zp121_23, zp121_24, zp121_25, zp121_26, zp121_27, zp121_28, zp121_29, zp121_30, zp121_31, zp121_32, zp121_33, zp121_34, zp79_2, zx2, zx13, zx14, zx15, zx17, zx28, zx29, zx30, zx32, zx43, zx44, zx45, zx47, zx78, zx80, zx84, zx85, zx86, zx88, zx89, zx90, zx99, zx120, zx122, zx123, zx124, zx125, zx126, zx127, zx128, zx129, zx130, zx131, zx132, zx133, zx134, zx135, zx136, zx137, zx138, zx139, zx140, zx141, zx142, zx143, zx144, zx145, zg2, zg17, zg32, zgo3, zgo18, zgo33, zl47, zlo, zlp, zlx, zs90, zso, zsp, zsx, zt99, zto, ztp1, ztp2, ztgo, ztso, ztsp, ztsx, zc0, zi0, zc1, zi1, zc2, zi2, zc3, zi3, zc4, zi4, zc5, zi5, zin, zcl, nI_1, Bool.and_self, Bool.true_and, Bool.and_true]
  rfl
