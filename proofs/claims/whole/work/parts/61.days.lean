/-! ===== days ===== -/
theorem evalS_g {g g' : Nat → Int32} (h : ∀ k, 76 ≤ k → g' k = g k) (t : Nat) (f : Nat → Int32) : evalS g' t f = evalS g t f := by
  unfold evalS
  have e : (fun k => g' (104 + 96 * t + k)) = (fun k => g (104 + 96 * t + k)) := funext fun k => h _ (by omega)
  rw [e, h _ (by omega)]
/-- by how much a glove of this price wears at this draw -/
def gainS (g : Nat → Int32) (p x : Int32) : Int32 := if lastK g 1 (cn (g 5)) = -1 then x / 4 else clampS (evalS g (cn (lastK g 1 (cn (g 5)))) (f3 x p 0)) 0 20
theorem gainS_g {g g' : Nat → Int32} (h : ∀ k, 76 ≤ k → g' k = g k) (h5 : g' 5 = g 5) (p x : Int32) : gainS g' p x = gainS g p x := by
  unfold gainS
  rw [h5, lastK_g h, evalS_g h]
theorem gainS_nI (g : Nat → Int32) (p : Int32) {r : Nat} (hr : r < 10) : ∃ q, q ≤ 20 ∧ gainS g p (nI r) = nI q := by
  unfold gainS
  split
  · refine ⟨r / 4, by omega, ?_⟩
    rw [show (4 : Int32) = nI 4 from rfl, pk_div (by omega) (by decide) (by decide)]
  · exact clamp_nI _ 20 (by decide)
/-- what wearing out makes of glove i: its wear, whether it is lost -/
def woW (g : Nat → Int32) (i : Nat) : Int32 := clampS (g (16 + 6 * i + 4) + gainS g (g (16 + 6 * i + 3)) (am_rem (drw (lcg (g 0))) 10)) 0 99
def woL (g : Nat → Int32) : Int32 := if g 3 ≤ am_rem (drw (lcg (lcg (g 0)))) 100 then 0 else 1
def wo (g : Nat → Int32) (i : Nat) : Nat → Int32 := up1 (up1 (up1 g 0 (lcg (lcg (g 0)))) (16 + 6 * i + 4) (woW g i)) (16 + 6 * i + 5) (woL g)
theorem wo_lo {g : Nat → Int32} {i k : Nat} (h0 : k ≠ 0) (h : k < 16 ∨ 76 ≤ k) (hi : i < 10) : wo g i k = g k := by
  unfold wo
  rw [up1_ne (by omega), up1_ne (by omega), up1_ne h0]
theorem woL_c (g : Nat → Int32) : woL g = 0 ∨ woL g = 1 := by
  unfold woL
  split
  · exact Or.inl rfl
  · exact Or.inr rfl
theorem up1_up1 (g : Nat → Int32) (k : Nat) (v w : Int32) : up1 (up1 g k v) k w = up1 g k w := by
  funext j
  unfold up1
  by_cases h : j = k <;> simp [h]
theorem up1_self (g : Nat → Int32) (k : Nat) {v : Int32} (h : g k = v) : up1 g k v = g := by
  funext j
  unfold up1
  by_cases e : j = k
  · rw [if_pos e, e]; exact h.symm
  · rw [if_neg e]
/-- a guild of which these three numbers have changed -/
theorem RC_wo {M M' : Mem} {gb i : Nat} {g : Nat → Int32} (hg : isGu gb) (hR : RC M gb g) (hi : i < cn (g 1)) (hrow : M' gb = up1 (M gb) 4 (lcg (lcg (g 0)))) (hgl : ∀ j, j < 6 → M' (gb + 2 + i) j = up1 (up1 (M (gb + 2 + i)) 4 (woW g i)) 5 (woL g) j) (ho : ∀ k, k ≠ gb → k ≠ gb + 2 + i → k ≠ 78 → k < 121 → M' k = M k) : RC M' gb (wo g i) := by
  have eb : gb = 1 ∨ gb = 16 ∨ gb = 31 := hg
  have hn := hR.2.2.2.2.1.n.1
  have hR1 : RC (am_up M gb 4 (lcg (lcg (g 0)))) gb (up1 g 0 (lcg (lcg (g 0)))) := by
    obtain ⟨a1, a2, a3, a4, a5, a6⟩ := hR.1
    refine RC_scal hR (Or.inl rfl) ?_ (fun k h1 h2 => am_up_ne (by omega)) (fun k h1 h2 => am_up_ne (by omega)) hR.2.2.2.2.1
    unfold RCs
    rw [up_row]
    exact ⟨by rw [up1_eq, up1_eq], a2, a3, a4, a5, a6⟩
  obtain ⟨w, hw, ew⟩ := clamp_nI (g (16 + 6 * i + 4) + gainS g (g (16 + 6 * i + 3)) (am_rem (drw (lcg (g 0))) 10)) 99 (by decide)
  have ew : woW g i = nI w := ew
  have hR2 := RC_field hg hR1 (show i < cn (up1 g 0 (lcg (lcg (g 0))) 1) from hi) (show 4 < 6 by decide) (show w ≤ gmx 4 from hw) (am_up (am_up M gb 4 (lcg (lcg (g 0)))) (gb + 2 + i) 4 (nI w)) (up_row _ _ _ _) (fun k h1 h2 => am_up_ne h1)
  obtain ⟨l, hl, el⟩ : ∃ l, l ≤ 1 ∧ woL g = nI l := by
    rcases woL_c g with h | h
    · exact ⟨0, by decide, h⟩
    · exact ⟨1, by decide, h⟩
  have hR3 := RC_field hg hR2 (show i < cn (up1 (up1 g 0 (lcg (lcg (g 0)))) (16 + 6 * i + 4) (nI w) 1) by rw [up1_ne (by omega)]; exact hi) (show 5 < 6 by decide) (show l ≤ gmx 5 from hl) (am_up (am_up (am_up M gb 4 (lcg (lcg (g 0)))) (gb + 2 + i) 4 (nI w)) (gb + 2 + i) 5 (nI l)) (up_row _ _ _ _) (fun k h1 h2 => am_up_ne h1)
  unfold wo
  rw [ew, el]
  rw [ew, el] at hgl
  obtain ⟨⟨s1, s2, s3, s4, s5, s6⟩, a2, a3, a4, a5, a6⟩ := hR3
  have hr0 : am_up (am_up (am_up M gb 4 (lcg (lcg (g 0)))) (gb + 2 + i) 4 (nI w)) (gb + 2 + i) 5 (nI l) gb = M' gb := by rw [am_up_ne (by omega), am_up_ne (by omega), up_row, hrow]
  have hr1 : ∀ k, k ≠ gb → k ≠ gb + 2 + i → k ≠ 78 → k < 121 → M' k = am_up (am_up (am_up M gb 4 (lcg (lcg (g 0)))) (gb + 2 + i) 4 (nI w)) (gb + 2 + i) 5 (nI l) k := fun k h1 h2 h3 h4 => by rw [am_up_ne h2, am_up_ne h2, am_up_ne h1]; exact ho k h1 h2 h3 h4
  have hr2 : ∀ j, j < 6 → M' (gb + 2 + i) j = am_up (am_up (am_up M gb 4 (lcg (lcg (g 0)))) (gb + 2 + i) 4 (nI w)) (gb + 2 + i) 5 (nI l) (gb + 2 + i) j := fun j hj => by rw [hgl j hj, up_row, up_row, am_up_ne (by omega)]
  have h14 := a5.t.1
  have hn' := a5.n.1
  refine ⟨?_, fun a ha j hj => ?_, fun a ha => ?_, ⟨fun t ht => ?_, fun key hk => ?_⟩, a5, a6⟩
  · unfold RCs
    rw [← hr0]
    exact ⟨s1, s2, s3, s4, s5, s6⟩
  · by_cases e : a = i
    · subst e
      rw [hr2 j hj]
      exact a2 a ha j hj
    · rw [hr1 _ (by omega) (by omega) (by omega) (by omega)]
      exact a2 a ha j hj
  · rw [hr1 _ (by omega) (by omega) (by omega) (by omega), hr1 _ (by omega) (by omega) (by omega) (by omega)]
    exact a3 a ha
  · exact TR_congr (hr1 _ (by omega) (by omega) (by omega) (by omega)) (hr1 _ (by omega) (by omega) (by omega) (by omega)) (a4.1 t ht)
  · rw [hr1 _ (by omega) (by omega) (by omega) (by omega)]
    exact a4.2 key hk
theorem mmin_clamp {w q : Nat} (hw : w ≤ 99) (hq : q ≤ 20) : am_mmin 99 (nI w + nI q) = clampS (nI w + nI q) 0 99 := by
  rw [nI_add]
  unfold am_mmin clampS
  rw [if_pos (nI_pos' (by omega))]
  by_cases h : w + q ≤ 99
  · rw [if_pos (show nI (w + q) ≤ 99 from nI_le (b := 99) h (by decide))]
    by_cases h2 : w + q = 99
    · rw [h2]; rfl
    · rw [if_pos (show nI (w + q) < 99 from nI_lt (b := 99) (by omega) (by decide))]
  · rw [if_neg (show ¬ nI (w + q) ≤ 99 from nI_ge (a := 99) (by omega) (by omega)), if_neg (show ¬ nI (w + q) < 99 from nI_nlt (b := 99) (by omega) (by omega))]
theorem q_wearOut {lp gb i : Nat} {M : Mem} {g : Nat → Int32} (hg : isGu gb) (hR : RC M gb g) (hi : i < cn (g 1)) (h0 : g (16 + 6 * i + 5) = 0) : ∃ M', fxX2_wearOut (some gb) (some (gb + 2 + i)) (some 46) (hp lp M) = some ((), hp lp M') ∧ RC M' gb (wo g i) ∧ ∀ z, ¬ (gb ≤ z ∧ z ≤ gb + 14) → z ≠ 78 → M' z = M z := by
  have eb : gb = 1 ∨ gb = 16 ∨ gb = 31 := hg
  have hn := hR.2.2.2.2.1.n.1
  have h14 := hR.2.2.2.2.1.t.1
  obtain ⟨v1, w1⟩ := hR.gv hi
  have e3 : M (gb + 2 + i) 3 = g (16 + 6 * i + 3) := w1 3 (by decide)
  have e4 : M (gb + 2 + i) 4 = g (16 + 6 * i + 4) := w1 4 (by decide)
  have e5 : M (gb + 2 + i) 5 = 0 := (w1 5 (by decide)).trans h0
  have ez : M gb 4 = g 0 := hR.1.1
  have el : M gb 2 = g 3 := hR.1.2.2.2.1
  obtain ⟨r, hr, er⟩ := drw_rem (lcg (g 0)) 10 (by decide) (by decide)
  have er : am_rem (drw (lcg (g 0))) 10 = nI r := er
  obtain ⟨q, hq, eq⟩ := gainS_nI g (g (16 + 6 * i + 3)) hr
  obtain ⟨w, hw, ew⟩ := v1 4 (by decide)
  have hw : w ≤ 99 := hw
  have hwW : am_mmin 99 (M (gb + 2 + i) 4 + gainS g (g (16 + 6 * i + 3)) (nI r)) = woW g i := by
    unfold woW
    rw [er, eq, ← e4, ew]
    exact mmin_clamp hw hq
  have ho1 := gu_go (lp := lp) (M := M) hg (show i < 10 by omega)
  -- the second half, from any memory that differs in z and the stack alone
  have tail : ∀ Mx : Mem, (∀ z, z ≠ 78 → Mx z = am_up M gb 4 (lcg (g 0)) z) → ∃ M', fxX2_wearOut_b45 (some gb) (some (gb + 2 + i)) (gainS g (g (16 + 6 * i + 3)) (nI r)) (hp lp Mx) = some ((), hp lp M') ∧ RC M' gb (wo g i) ∧ ∀ z, ¬ (gb ≤ z ∧ z ≤ gb + 14) → z ≠ 78 → M' z = M z := by
    intro Mx hx
    have x1 : Mx (gb + 2 + i) = M (gb + 2 + i) := by rw [hx _ (by omega), am_up_ne (by omega)]
    have x2 : Mx gb = up1 (M gb) 4 (lcg (g 0)) := by rw [hx _ (by omega), up_row]
    generalize hM1 : am_up (am_up Mx (gb + 2 + i) 4 (woW g i)) gb 4 (lcg (lcg (g 0))) = M1
    have y1 : M1 (gb + 2 + i) = up1 (M (gb + 2 + i)) 4 (woW g i) := by rw [← hM1, am_up_ne (by omega), up_row, x1]
    have y2 : M1 gb = up1 (M gb) 4 (lcg (lcg (g 0))) := by rw [← hM1, up_row, am_up_ne (by omega), x2, up1_up1]
    have y3 : ∀ z, z ≠ gb → z ≠ gb + 2 + i → z ≠ 78 → M1 z = M z := fun z z1 z2 z3 => by rw [← hM1, am_up_ne z1, am_up_ne z2, hx z z3, am_up_ne z1]
    have z1 : am_up Mx (gb + 2 + i) 4 (woW g i) gb 4 = lcg (g 0) := by rw [am_up_ne (by omega), x2, up1_eq]
    have z2 : M1 gb 2 = g 3 := by rw [y2, up1_ne (by decide)]; exact el
    have head : fxX2_wearOut_b45 (some gb) (some (gb + 2 + i)) (gainS g (g (16 + 6 * i + 3)) (nI r)) (hp lp Mx) = (if g 3 ≤ am_rem (drw (lcg (lcg (g 0)))) 100 then some ((), hp lp M1) else some ((), hp lp (am_up M1 (gb + 2 + i) 5 1))) := by
      simp (disch := omega) only [fxX2_wearOut_b45, am_gd_t, am_lt_e, am_bd_s, bi_0, bi_bz, bz0, bz1, nz2, nz10, nz100, hp_gi, hp_si, ↓reduceIte, if_true, if_false, Bool.true_eq_false, Bool.false_eq_true, eq_self, reduceCtorEq, ob_gu hg, gu_go hg, x1, hwW, q_draw hg, z1, hM1, z2, Bool.and_self]
    rw [head]
    by_cases hl : g 3 ≤ am_rem (drw (lcg (lcg (g 0)))) 100
    · rw [if_pos hl]
      have hL : woL g = 0 := by unfold woL; rw [if_pos hl]
      refine ⟨M1, rfl, RC_wo hg hR hi y2 (fun j hj => ?_) (fun k k1 k2 k3 k4 => y3 k k1 k2 k3), fun z z1 z2 => y3 z (by omega) (by omega) z2⟩
      rw [y1, hL, up1_self (up1 (M (gb + 2 + i)) 4 (woW g i)) 5 (by rw [up1_ne (by decide)]; exact e5)]
    · rw [if_neg hl]
      have hL : woL g = 1 := by unfold woL; rw [if_neg hl]
      refine ⟨_, rfl, RC_wo hg hR hi (by rw [am_up_ne (by omega)]; exact y2) (fun j hj => ?_) (fun k k1 k2 k3 k4 => by rw [am_up_ne k2]; exact y3 k k1 k2 k3), fun z z1 z2 => by rw [am_up_ne (by omega)]; exact y3 z (by omega) (by omega) z2⟩
      rw [up_row, y1, hL]
  have ek : M (gb + 14) 1 = lastK g 1 (cn (g 5)) := hR.2.2.2.1.2 1 (by decide)
  have ek' : am_up M gb 4 (lcg (g 0)) (gb + 14) 1 = lastK g 1 (cn (g 5)) := by rw [am_up_ne (by omega)]; exact ek
  have e3' : am_up M gb 4 (lcg (g 0)) (gb + 2 + i) 3 = g (16 + 6 * i + 3) := by rw [am_up_ne (by omega)]; exact e3
  rcases lastK_c g 1 (cn (g 5)) with h | ⟨t, ht, h⟩
  · have hgn : nI r / 4 = gainS g (g (16 + 6 * i + 3)) (nI r) := by unfold gainS; rw [h, if_pos rfl]
    obtain ⟨M', q1, q2, q3⟩ := tail (am_up M gb 4 (lcg (g 0))) (fun _ _ => rfl)
    refine ⟨M', ?_, q2, q3⟩
    rw [h] at ek'
    simp (disch := omega) only [fxX2_wearOut, am_gd_t, am_lt_e, am_bd_s, bi_0, bi_bz, bz0, bz1, nz2, nz10, nz100, hp_gi, hp_si, ↓reduceIte, if_true, if_false, Bool.true_eq_false, Bool.false_eq_true, eq_self, reduceCtorEq, ob_gu hg, gu_go hg, q_draw hg, ez, gu_9 hg, x_gu14 hg, show am_in (1 : Int32) 3 = true from rfl, zc1, ek', nz4, er, hgn]
    exact q1
  · have hT := hR.2.2.2.1.1 t ht
    obtain ⟨Mx, u1, u2⟩ := q_give (lp := lp) (M := am_up M gb 4 (lcg (g 0))) (show t < 15 by omega) (TR_congr (am_up_ne (by omega)) (am_up_ne (by omega)) hT) (nI r) (g (16 + 6 * i + 3)) 0
    have hgn : clampS (evalS g t (f3 (nI r) (g (16 + 6 * i + 3)) 0)) 0 20 = gainS g (g (16 + 6 * i + 3)) (nI r) := by unfold gainS; rw [h, if_neg (by rw [nI_nm1 (by omega)]; exact not_false), cn_nI (by omega)]
    obtain ⟨M', q1, q2, q3⟩ := tail Mx u2
    refine ⟨M', ?_, q2, q3⟩
    rw [h] at ek'
    simp (disch := omega) only [fxX2_wearOut, am_gd_t, am_lt_e, am_bd_s, bi_0, bi_bz, bz0, bz1, nz2, nz10, nz100, hp_gi, hp_si, ↓reduceIte, if_true, if_false, Bool.true_eq_false, Bool.false_eq_true, eq_self, reduceCtorEq, ob_gu hg, gu_go hg, q_draw hg, ez, gu_9 hg, x_gu14 hg, show am_in (1 : Int32) 3 = true from rfl, zc1, ek', nI_nm1, er, e3', zo46, u1, q_held _ 20 (show (0 : Int32) ≤ 20 by decide), hgn]
    exact q1
/-! a day, days -/
def dayG (home : Int32) : Nat → Nat → (Nat → Int32) → (Nat → Int32)
  | 0, _, g => up1 g 2 (g 2 + 1)
  | k + 1, i, g => if nI i = home ∨ ¬ g (16 + 6 * i + 5) = 0 then dayG home k (i + 1) g else dayG home k (i + 1) (wo g i)
def dayL (home : Int32) : Nat → Nat → (Nat → Int32) → Int32
  | 0, _, _ => 0
  | k + 1, i, g => if nI i = home ∨ ¬ g (16 + 6 * i + 5) = 0 then dayL home k (i + 1) g else woL g + dayL home k (i + 1) (wo g i)
theorem dayG_lo {home : Int32} : ∀ k i (g : Nat → Int32) z, z ≠ 0 → z ≠ 2 → (z < 16 ∨ 76 ≤ z) → i + k ≤ 10 → dayG home k i g z = g z := by
  intro k
  induction k with
  | zero => intro i g z h0 h2 h hk; unfold dayG; rw [up1_ne h2]
  | succ k ih =>
    intro i g z h0 h2 h hk
    unfold dayG
    split
    · exact ih _ _ _ h0 h2 h (by omega)
    · rw [ih _ _ _ h0 h2 h (by omega), wo_lo h0 h (by omega)]
theorem dayG_2 {home : Int32} : ∀ k i (g : Nat → Int32), i + k ≤ 10 → dayG home k i g 2 = g 2 + 1 := by
  intro k
  induction k with
  | zero => intro i g hk; unfold dayG; rw [up1_eq]
  | succ k ih =>
    intro i g hk
    unfold dayG
    split
    · exact ih _ _ (by omega)
    · rw [ih _ _ (by omega), wo_lo (by decide) (by omega) (by omega)]
def liveG (home : Int32) : Nat → (Nat → Int32) → (Nat → Int32)
  | 0, g => g
  | d + 1, g => liveG home d (dayG home (cn (g 1)) 0 g)
def liveL (home : Int32) : Nat → (Nat → Int32) → Int32
  | 0, _ => 0
  | d + 1, g => dayL home (cn (g 1)) 0 g + liveL home d (dayG home (cn (g 1)) 0 g)
theorem liveG_lo {home : Int32} : ∀ d (g : Nat → Int32) z, cn (g 1) ≤ 10 → z ≠ 0 → z ≠ 2 → (z < 16 ∨ 76 ≤ z) → liveG home d g z = g z := by
  intro d
  induction d with
  | zero => intro g z _ _ _ _; rfl
  | succ d ih =>
    intro g z hn h0 h2 h
    unfold liveG
    rw [ih _ _ (by rw [dayG_lo _ _ _ 1 (by decide) (by decide) (by decide) (by omega)]; exact hn) h0 h2 h, dayG_lo _ _ _ _ h0 h2 h (by omega)]
theorem live_day {lp gb d l : Nat} {home : Int32} (hg : isGu gb) (k3 : Option Nat → Int32 → Int32 → Option Nat → Int32 → am_H → Option (Unit × am_H)) : ∀ k i fuel (M : Mem) (g : Nat → Int32), RC M gb g → i + k = cn (g 1) → k < fuel → cn (g 2) + 1 ≤ 20000 → ∃ M', fxX2_live_b12 k3 fuel (some gb) (nI d) home (some 46) (nI l) (nI i) (hp lp M) = k3 (some gb) (nI d) home (some 46) (nI (l + 1)) (hp lp M') ∧ RC M' gb (dayG home k i g) ∧ ∀ z, ¬ (gb ≤ z ∧ z ≤ gb + 14) → z ≠ 78 → M' z = M z := by
  have eb : gb = 1 ∨ gb = 16 ∨ gb = 31 := hg
  intro k
  induction k with
  | zero =>
    intro i fuel M g hR hi hf hd
    obtain ⟨fuel, rfl⟩ : ∃ f, fuel = f + 1 := ⟨fuel - 1, by omega⟩
    obtain ⟨hn, en⟩ := hR.2.2.2.2.1.n
    have e1 : M gb 1 = nI i := by rw [hR.1.2.1, en]; congr 1; omega
    have e3 : M gb 3 = g 2 := hR.1.2.2.1
    refine ⟨am_up M gb 3 (g 2 + 1), ?_, ?_, fun z hz _ => am_up_ne (by omega)⟩
    · simp (disch := omega) only [fxX2_live_b12, am_gd_t, am_lt_e, am_bd_s, bi_0, bi_bz, bz0, bz1, nz2, nz10, nz100, hp_gi, hp_si, ↓reduceIte, if_true, if_false, Bool.true_eq_false, Bool.false_eq_true, eq_self, reduceCtorEq, zin, zcl, nI_1, Bool.and_self, Bool.true_and, Bool.and_true, ob_gu hg, e1, zle', e3]
    · obtain ⟨a1, a2, a3, a4, a5, a6⟩ := hR.1
      obtain ⟨v1, ⟨m, v2, v2'⟩, v3, v4, v5⟩ := hR.2.2.2.2.1
      refine RC_scal hR (Or.inr (Or.inl rfl)) ?_ (fun k h1 h2 => am_up_ne (by omega)) (fun k h1 h2 => am_up_ne (by omega)) ⟨v1, ⟨m + 1, ?_, ?_⟩, v3, v4, v5⟩
      · unfold RCs
        rw [up_row]
        exact ⟨a1, a2, by rw [up1_eq, up1_eq], a4, a5, a6⟩
      · rw [v2', cn_nI (by omega)] at hd; exact hd
      · rw [up1_eq, v2', nI_1]
  | succ k ih =>
    intro i fuel M g hR hi hf hd
    obtain ⟨fuel, rfl⟩ : ∃ f, fuel = f + 1 := ⟨fuel - 1, by omega⟩
    obtain ⟨hn, en⟩ := hR.2.2.2.2.1.n
    have e1 : M gb 1 = nI (cn (g 1)) := by rw [hR.1.2.1, en, cn_nI (by omega)]
    have hgt : (nI (cn (g 1)) ≤ nI i) = False := zle (by omega) (by omega)
    obtain ⟨v1, w1⟩ := hR.gv (show i < cn (g 1) by omega)
    have e5 : M (gb + 2 + i) 5 = g (16 + 6 * i + 5) := w1 5 (by decide)
    unfold dayG
    by_cases hs : nI i = home ∨ ¬ g (16 + 6 * i + 5) = 0
    · rw [if_pos hs]
      obtain ⟨M', q1, q2, q3⟩ := ih (i + 1) fuel M g hR (by omega) (by omega) hd
      refine ⟨M', ?_, q2, q3⟩
      rcases hs with hs | hs
      · have hgt' : (nI (cn (g 1)) ≤ home) = False := by rw [← hs]; exact hgt
        simp (disch := omega) only [fxX2_live_b12, fxX2_live_b52, am_gd_t, am_lt_e, am_bd_s, bi_0, bi_bz, bz0, bz1, nz2, nz10, nz100, hp_gi, hp_si, ↓reduceIte, if_true, if_false, Bool.true_eq_false, Bool.false_eq_true, eq_self, reduceCtorEq, zin, zcl, nI_1, Bool.and_self, Bool.true_and, Bool.and_true, ob_gu hg, e1, hgt', hs]
        rw [← hs, nI_1]
        rw [← hs] at q1
        exact q1
      · by_cases hh : nI i = home
        · have hgt' : (nI (cn (g 1)) ≤ home) = False := by rw [← hh]; exact hgt
          simp (disch := omega) only [fxX2_live_b12, fxX2_live_b52, am_gd_t, am_lt_e, am_bd_s, bi_0, bi_bz, bz0, bz1, nz2, nz10, nz100, hp_gi, hp_si, ↓reduceIte, if_true, if_false, Bool.true_eq_false, Bool.false_eq_true, eq_self, reduceCtorEq, zin, zcl, nI_1, Bool.and_self, Bool.true_and, Bool.and_true, ob_gu hg, e1, hgt', hh]
          rw [← hh, nI_1]
          rw [← hh] at q1
          exact q1
        · simp (disch := omega) only [fxX2_live_b12, fxX2_live_b52, am_gd_t, am_lt_e, am_bd_s, bi_0, bi_bz, bz0, bz1, nz2, nz10, nz100, hp_gi, hp_si, ↓reduceIte, if_true, if_false, Bool.true_eq_false, Bool.false_eq_true, eq_self, reduceCtorEq, zin, zcl, nI_1, Bool.and_self, Bool.true_and, Bool.and_true, ob_gu hg, e1, hgt, hh, gu_0 hg, x_gu1 hg, gu_gl hg, gu_go hg, e5, hs]
          exact q1
    · rw [if_neg hs]
      have hh : ¬ nI i = home := fun q => hs (Or.inl q)
      have hz : g (16 + 6 * i + 5) = 0 := Classical.byContradiction fun q => hs (Or.inr q)
      obtain ⟨M1, p1, p2, p3⟩ := q_wearOut (lp := lp) hg hR (show i < cn (g 1) by omega) hz
      obtain ⟨M', q1, q2, q3⟩ := ih (i + 1) fuel M1 (wo g i) p2 (by rw [wo_lo (by decide) (by omega) (by omega)]; omega) (by omega) (by rw [wo_lo (by decide) (by omega) (by omega)]; exact hd)
      refine ⟨M', ?_, q2, fun z z1 z2 => by rw [q3 z z1 z2, p3 z z1 z2]⟩
      simp (disch := omega) only [fxX2_live_b12, fxX2_live_b52, am_gd_t, am_lt_e, am_bd_s, bi_0, bi_bz, bz0, bz1, nz2, nz10, nz100, hp_gi, hp_si, ↓reduceIte, if_true, if_false, Bool.true_eq_false, Bool.false_eq_true, eq_self, reduceCtorEq, zin, zcl, nI_1, Bool.and_self, Bool.true_and, Bool.and_true, ob_gu hg, e1, hgt, hh, gu_0 hg, x_gu1 hg, gu_gl hg, gu_go hg, e5, hz, p1]
      exact q1
theorem q_live {lp gb : Nat} {home : Int32} (hg : isGu gb) (d : Nat) (M : Mem) (g : Nat → Int32) (hR : RC M gb g) (hd : cn (g 2) + d ≤ 20000) (hd2 : d ≤ 3000) : ∃ M', fxX2_live (some gb) (nI d) home (some 46) (hp lp M) = some ((), hp lp M') ∧ RC M' gb (liveG home d g) ∧ ∀ z, ¬ (gb ≤ z ∧ z ≤ gb + 14) → z ≠ 78 → M' z = M z := by
  have L : ∀ m l fuel (M : Mem) (g : Nat → Int32), RC M gb g → l + m = d → m < fuel → cn (g 2) + m ≤ 20000 → ∃ M', fxX2_live_b3 fuel (some gb) (nI d) home (some 46) (nI l) (hp lp M) = some ((), hp lp M') ∧ RC M' gb (liveG home m g) ∧ ∀ z, ¬ (gb ≤ z ∧ z ≤ gb + 14) → z ≠ 78 → M' z = M z := by
    intro m
    induction m with
    | zero =>
      intro l fuel M g hR hl hf hd
      obtain ⟨fuel, rfl⟩ : ∃ f, fuel = f + 1 := ⟨fuel - 1, by omega⟩
      obtain rfl : l = d := by omega
      refine ⟨M, ?_, hR, fun _ _ _ => rfl⟩
      simp (disch := omega) only [fxX2_live_b3, zle', ↓reduceIte, if_true, if_false, Bool.true_eq_false, Bool.false_eq_true, eq_self, reduceCtorEq]
    | succ m ih =>
      intro l fuel M g hR hl hf hd
      obtain ⟨fuel, rfl⟩ : ∃ f, fuel = f + 1 := ⟨fuel - 1, by omega⟩
      have hn := hR.2.2.2.2.1.n.1
      obtain ⟨M1, p1, p2, p3⟩ := live_day (lp := lp) (d := d) (l := l) (home := home) hg (fxX2_live_b3 fuel) (cn (g 1)) 0 am_F M g hR (by omega) (by unfold am_F; omega) (by omega)
      obtain ⟨m2, hm2, em2⟩ := hR.2.2.2.2.1.2.1
      obtain ⟨M', q1, q2, q3⟩ := ih (l + 1) fuel M1 _ p2 (by omega) (by omega) (by rw [dayG_2 _ _ _ (by omega), em2, nI_1, cn_nI (by omega)]; rw [em2, cn_nI (by omega)] at hd; omega)
      refine ⟨M', ?_, q2, fun z z1 z2 => by rw [q3 z z1 z2, p3 z z1 z2]⟩
      simp (disch := omega) only [fxX2_live_b3, zle, ↓reduceIte, if_true, if_false, Bool.true_eq_false, Bool.false_eq_true, eq_self, reduceCtorEq, am_gd_t, am_lt_e, am_bd_s, bi_0, bi_bz, bz0, bz1, nz2, nz10, nz100, hp_gi, hp_si]
      rw [show (0 : Int32) = nI 0 from rfl, p1]
      exact q1
  obtain ⟨M', q⟩ := L d 0 am_F M g hR (by omega) (by unfold am_F; omega) hd
  refine ⟨M', ?_, q.2⟩
  simp only [fxX2_live, am_gd_t, am_lt_e, am_bd_s, bi_0, bi_bz, bz0, bz1, nz2, nz10, nz100, hp_gi, hp_si]
  exact q.1
