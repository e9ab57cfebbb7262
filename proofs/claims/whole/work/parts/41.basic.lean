/-! ===== small things: numbers, ranges, the shapes by their places ===== -/
theorem q_within (a b c : Int32) (h : am_H) : fxX9_within a b c h = some (bi (iw a b c), h) := by
  unfold fxX9_within
  by_cases h1 : a < b
  · have : ¬ b ≤ a := Int32.not_le.mpr h1
    simp [h1, bi, iw, this, am_gd, am_bz]
  · have h1' : b ≤ a := Int32.not_lt.mp h1
    by_cases h2 : c < a
    · have : ¬ a ≤ c := Int32.not_le.mpr h2
      simp [h1, h2, bi, iw, this, am_gd, am_bz]
    · have h2' : a ≤ c := Int32.not_lt.mp h2
      simp [h1, h2, bi, iw, h1', h2', am_gd, am_bz]
theorem q_in (a b c : Int32) (h : am_H) : fxX10_in a b c h = some (bi (iw a b c), h) := q_within a b c h
theorem q_isKind (a : Int32) (h : am_H) : fxX9_isKind a h = some (bi (iw a 0 5), h) := by
  simp only [fxX9_isKind, q_within, am_bd_s, bi_bz, am_gd_t]
theorem q_isWord (a : Int32) (h : am_H) : fxX9_isWord a h = some (bi (iw a 0 4), h) := by
  simp only [fxX9_isWord, q_within, am_bd_s, bi_bz, am_gd_t]
theorem q_isSlot (a : Int32) (h : am_H) : fxX9_isSlot a h = some (bi (iw a 0 4), h) := by
  simp only [fxX9_isSlot, q_within, am_bd_s, bi_bz, am_gd_t]
theorem q_misWord (a : Int32) (h : am_H) : fxX10_isWord a h = some (bi (iw a 0 4), h) := by
  simp only [fxX10_isWord, q_in, am_bd_s, bi_bz, am_gd_t]
theorem q_misSlot (a : Int32) (h : am_H) : fxX10_isSlot a h = some (bi (iw a 0 4), h) := by
  simp only [fxX10_isSlot, q_in, am_bd_s, bi_bz, am_gd_t]
theorem q_misSheet (a : Int32) (h : am_H) : fxX10_isSheet a h = some (bi (iw a 0 3), h) := by
  simp only [fxX10_isSheet, q_in, am_bd_s, bi_bz, am_gd_t]
/-- held within: one word for both sides -/
def clampS (v a b : Int32) : Int32 := if a ≤ v then (if v ≤ b then v else b) else a
theorem q_mwithin (v a b : Int32) (h : am_H) : fxX10_within v a b h = some (clampS v a b, h) := by
  unfold fxX10_within clampS
  by_cases h1 : a ≤ v <;> by_cases h2 : v ≤ b <;> simp [h1, h2]
theorem q_held (v b : Int32) (hb : 0 ≤ b) (h : am_H) : fxX9_held v b h = some (clampS v 0 b, h) := by
  unfold fxX9_held clampS am_mmax am_mmin
  by_cases h1 : 0 ≤ v
  · by_cases h2 : v ≤ b
    · have h3 : ¬ b < v := Int32.not_lt.mpr h2
      rw [if_neg h3, if_pos h1, if_pos h2]
      by_cases h4 : 0 < v
      · rw [if_pos h4]
      · have : v = 0 := Int32.le_antisymm (Int32.not_lt.mp h4) h1
        rw [if_neg h4, this]
    · have h3 : b < v := Int32.not_le.mp h2
      rw [if_pos h3, if_pos h1, if_neg h2]
      by_cases h4 : 0 < b
      · rw [if_pos h4]
      · have : b = 0 := Int32.le_antisymm (Int32.not_lt.mp h4) hb
        rw [if_neg h4, this]
  · have h0 : v < 0 := Int32.not_le.mp h1
    have h3 : ¬ b < v := fun q => Int32.not_le.mpr (Int32.lt_of_lt_of_le q (Int32.le_of_lt h0)) hb |>.elim
    rw [if_neg h3, if_neg h1, if_neg (Int32.not_lt.mpr (Int32.le_of_lt h0))]
theorem iw_nI {x : Int32} {n : Nat} (hn : n ≤ 1000000) (h : iw x 0 (nI n - 1) = true) : ∃ i, i < n ∧ x = nI i := by
  simp only [iw, Bool.and_eq_true, decide_eq_true_eq] at h
  obtain ⟨j, hj, rfl⟩ := nI_of (Int32.not_lt.mpr h.1)
  refine ⟨j, ?_, rfl⟩
  cases n with
  | zero =>
    exfalso
    have h2 := Int32.le_iff_toInt_le.mp h.2
    rw [nI_toInt hj] at h2
    have : (nI 0 - 1).toInt = -1 := by decide
    omega
  | succ n =>
    rw [nI_pred] at h
    have h2 := (nI_leI hj (by omega)).mp h.2
    omega
theorem iw_nI' {n i : Nat} (hn : n ≤ 1000000) (hi : i < n) : iw (nI i) 0 (nI n - 1) = true := by
  cases n with
  | zero => omega
  | succ n =>
    rw [nI_pred]
    simp only [iw, Bool.and_eq_true, decide_eq_true_eq]
    exact ⟨nI_pos' (by omega), nI_le (by omega) (by omega)⟩
theorem iw_lit {x : Int32} (m : Nat) {b : Int32} (hb : b = nI m) (hm : m < 1000000) (h : iw x 0 b = true) : ∃ i, i ≤ m ∧ x = nI i := by
  subst hb
  obtain ⟨i, h1, h2⟩ := iw_nI (n := m + 1) (x := x) (by omega) (by rw [nI_pred]; exact h)
  exact ⟨i, by omega, h2⟩
theorem in_nI {i n : Nat} (hi : i < n) (hn : n ≤ 1000000) : am_in (nI i) n = true := by
  simp only [am_in, Bool.and_eq_true, Bool.not_eq_true', decide_eq_false_iff_not, decide_eq_true_eq]
  exact ⟨nI_pos (by omega), by rw [nI_clamp (by omega)]; exact hi⟩
/-- the shapes, by their places -/
theorem ob_0 (lp : Nat) (M : Nat → Nat → Int32) : am_ob (hp lp M) (some 0) 9 = true := rfl
theorem ob_M (lp : Nat) (M : Nat → Nat → Int32) : am_ob (hp lp M) (some 121) 10 = true := rfl
def isGu (gb : Nat) : Prop := gb = 1 ∨ gb = 16 ∨ gb = 31
theorem ob_gu {lp gb : Nat} {M : Nat → Nat → Int32} (h : isGu gb) : am_ob (hp lp M) (some gb) 2 = true := by
  rcases h with rfl | rfl | rfl <;> rfl
theorem p_gu0 {lp gb : Nat} (h : isGu gb) : hp_P lp gb 0 = some (gb + 1) := by rcases h with rfl | rfl | rfl <;> rfl
theorem p_gu5 {lp gb : Nat} (h : isGu gb) : hp_P lp gb 5 = some (gb + 12) := by rcases h with rfl | rfl | rfl <;> rfl
theorem p_gu6 {lp gb : Nat} (h : isGu gb) : hp_P lp gb 6 = some (gb + 13) := by rcases h with rfl | rfl | rfl <;> rfl
theorem p_gu9 {lp gb : Nat} (h : isGu gb) : hp_P lp gb 9 = some (gb + 14) := by rcases h with rfl | rfl | rfl <;> rfl
theorem x_gu1 {lp gb : Nat} {M : Nat → Nat → Int32} {i : Int32} (h : isGu gb) : am_ix (hp lp M) (some (gb + 1)) 3 i = am_in i 10 := by rcases h with rfl | rfl | rfl <;> rfl
theorem x_gu12 {lp gb : Nat} {M : Nat → Nat → Int32} {i : Int32} (h : isGu gb) : am_ix (hp lp M) (some (gb + 12)) 0 i = am_in i 10 := by rcases h with rfl | rfl | rfl <;> rfl
theorem x_gu13 {lp gb : Nat} {M : Nat → Nat → Int32} {i : Int32} (h : isGu gb) : am_ix (hp lp M) (some (gb + 13)) 0 i = am_in i 10 := by rcases h with rfl | rfl | rfl <;> rfl
theorem x_gu14 {lp gb : Nat} {M : Nat → Nat → Int32} {i : Int32} (h : isGu gb) : am_ix (hp lp M) (some (gb + 14)) 0 i = am_in i 3 := by rcases h with rfl | rfl | rfl <;> rfl
theorem p_gl {lp gb i : Nat} (h : isGu gb) (hi : i < 10) : hp_P lp (gb + 1) i = some (gb + 2 + i) := by
  rcases h with rfl | rfl | rfl <;> rcases (show i = 0 ∨ i = 1 ∨ i = 2 ∨ i = 3 ∨ i = 4 ∨ i = 5 ∨ i = 6 ∨ i = 7 ∨ i = 8 ∨ i = 9 by omega) with rfl | rfl | rfl | rfl | rfl | rfl | rfl | rfl | rfl | rfl <;> rfl
/-- a glove's cell -/
def isG (k : Nat) : Prop := k < 146 ∧ hp_S k = .inr 1
theorem ob_g {lp k : Nat} {M : Nat → Nat → Int32} (h : isG k) : am_ob (hp lp M) (some k) 1 = true := by
  obtain ⟨h1, h2⟩ := h
  simp [am_ob, hp, h1, h2]
theorem isG_gl {gb i : Nat} (h : isGu gb) (hi : i < 10) : isG (gb + 2 + i) := by
  rcases h with rfl | rfl | rfl <;> rcases (show i = 0 ∨ i = 1 ∨ i = 2 ∨ i = 3 ∨ i = 4 ∨ i = 5 ∨ i = 6 ∨ i = 7 ∨ i = 8 ∨ i = 9 by omega) with rfl | rfl | rfl | rfl | rfl | rfl | rfl | rfl | rfl | rfl <;> exact ⟨by decide, rfl⟩
theorem isG_sl {i : Nat} (hi : i < 5) : isG (101 + 4 * i) := by
  rcases (show i = 0 ∨ i = 1 ∨ i = 2 ∨ i = 3 ∨ i = 4 by omega) with rfl | rfl | rfl | rfl | rfl <;> exact ⟨by decide, rfl⟩
theorem up_eq (M : Nat → Nat → Int32) (k j : Nat) (v : Int32) : am_up M k j v k j = v := by simp [am_up]
theorem up_nj {M : Nat → Nat → Int32} {k j a c : Nat} {v : Int32} (h : c ≠ j) : am_up M k j v a c = M a c := by
  simp [am_up, h]
theorem up_nk {M : Nat → Nat → Int32} {k j a c : Nat} {v : Int32} (h : a ≠ k) : am_up M k j v a c = M a c := by simp [am_up, h]
/-! gloves -/
def setG (M : Nat → Nat → Int32) (k : Nat) (a b c d e f : Int32) : Nat → Nat → Int32 := am_up (am_up (am_up (am_up (am_up (am_up M k 0 a) k 1 b) k 2 c) k 3 d) k 4 e) k 5 f
theorem q_become {lp k : Nat} {M : Nat → Nat → Int32} (hk : isG k) (a b c d : Int32) : fxX1_become (some k) a b c d (hp lp M) = some ((), hp lp (setG M k a b c d 0 0)) := by
  simp only [fxX1_become, ob_g hk, am_gd_t, am_lt, hp_si, setG, show am_bz (0 : Int32) = true from rfl, Bool.and_self]

/-! ===== gloves: what they are worth, what they suit, as functions of their fields ===== -/
def worthS (a : Nat → Int32) : Int32 := if a 0 = 1 then a 3 + 5 else if a 0 = 2 then 99 - a 3 else if a 0 = 3 then 2 * (a 3 + 5) else if a 0 = 4 then 99 - a 3 - 3 else if a 0 = 5 then 8 else a 3
theorem q_worth {lp k : Nat} {M : Nat → Nat → Int32} (hk : isG k) : fxX1_worth (some k) (hp lp M) = some (worthS (M k), hp lp M) := by
  simp only [fxX1_worth, ob_g hk, am_gd_t, am_lt, hp_gi, worthS]
  repeat' split
  all_goals rfl
def traitS (a : Nat → Int32) (what : Int32) : Int32 := if what = 1 then a 1 else if what = 2 then a 2 else if what = 3 then a 3 else if what = 4 then a 4 else a 5
