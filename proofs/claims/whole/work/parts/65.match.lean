/-! ===== pairings: the best value by the lowest glove is that by the highest ===== -/
def Good (n : Nat) (p : Nat → Nat → Bool) (w : Nat → Nat → Nat) (G : Nat → Nat) : Prop :=
  G 0 = 0 ∧ (∀ S, S < 2 ^ n → ∀ a, S.testBit a = true → G (clr S a) ≤ G S) ∧
  (∀ S, S < 2 ^ n → ∀ a b, S.testBit a = true → S.testBit b = true → a ≠ b → p a b = true → w a b + G (clr (clr S a) b) ≤ G S) ∧
  (∀ S, S < 2 ^ n → S ≠ 0 → ∃ a, S.testBit a = true ∧ (G S = G (clr S a) ∨ ∃ b, S.testBit b = true ∧ a ≠ b ∧ p a b = true ∧ G S = w a b + G (clr (clr S a) b)))
theorem n10 {n S : Nat} (hn : n ≤ 10) (hS : S < 2 ^ n) : S < 1024 := by
  have := (Nat.pow_le_pow_right (by decide) hn : 2 ^ n ≤ 2 ^ 10)
  omega
theorem Good_le {n : Nat} (hn : n ≤ 10) {p : Nat → Nat → Bool} {w : Nat → Nat → Nat} {G G' : Nat → Nat} (h : Good n p w G) (h' : Good n p w G') : ∀ k S, S < k → S < 2 ^ n → G S ≤ G' S := by
  intro k
  induction k with
  | zero => intro S h; omega
  | succ k ih =>
    intro S hk hS
    have hS10 := n10 hn hS
    by_cases h0 : S = 0
    · rw [h0, h.1, h'.1]; exact Nat.le_refl _
    · obtain ⟨a, ha, q⟩ := h.2.2.2 S hS h0
      have l1 := clr_lt hS10 ha
      rcases q with q | ⟨b, hb, hab, hp, q⟩
      · have := ih (clr S a) (by omega) (by omega)
        have := h'.2.1 S hS a ha
        omega
      · have l2 := clr_le (clr S a) b
        have := ih (clr (clr S a) b) (by omega) (by omega)
        have := h'.2.2.1 S hS a b ha hb hab hp
        omega
theorem Good_eq {n : Nat} (hn : n ≤ 10) {p : Nat → Nat → Bool} {w : Nat → Nat → Nat} {G G' : Nat → Nat} (h : Good n p w G) (h' : Good n p w G') {S : Nat} (hS : S < 2 ^ n) : G S = G' S :=
  Nat.le_antisymm (Good_le hn h h' (S + 1) S (by omega) hS) (Good_le hn h' h (S + 1) S (by omega) hS)
/-- what one extreme element gives -/
def Rc (p : Nat → Nat → Bool) (w : Nat → Nat → Nat) (le : Nat → Nat → Prop) (G : Nat → Nat) (S : Nat) : Prop := ∃ e, S.testBit e = true ∧ (∀ i, S.testBit i = true → le e i) ∧ G (clr S e) ≤ G S ∧ (∀ y, S.testBit y = true → e ≠ y → p e y = true → w e y + G (clr (clr S e) y) ≤ G S) ∧ (G S = G (clr S e) ∨ ∃ y, S.testBit y = true ∧ e ≠ y ∧ p e y = true ∧ G S = w e y + G (clr (clr S e) y))
theorem Good_of {n : Nat} (hn : n ≤ 10) {p : Nat → Nat → Bool} {w : Nat → Nat → Nat} {le : Nat → Nat → Prop} {G : Nat → Nat} (hps : ∀ a b, p a b = p b a) (hws : ∀ a b, w a b = w b a) (hle : ∀ a b, le a b → le b a → a = b) (h0 : G 0 = 0) (hr : ∀ S, S < 2 ^ n → S ≠ 0 → Rc p w le G S) : Good n p w G := by
  have main : ∀ k S, S < k → S < 2 ^ n → (∀ a, S.testBit a = true → G (clr S a) ≤ G S) ∧ (∀ a b, S.testBit a = true → S.testBit b = true → a ≠ b → p a b = true → w a b + G (clr (clr S a) b) ≤ G S) := by
    intro k
    induction k with
    | zero => intro S h; omega
    | succ k ih =>
      intro S hk hS
      have hS10 := n10 hn hS
      by_cases hS0 : S = 0
      · subst hS0
        exact ⟨fun a ha => by simp at ha, fun a b ha => by simp at ha⟩
      obtain ⟨e, he, hmin, r1, r2, -⟩ := hr S hS hS0
      have he10 : e < 10 := tb_lt (n := 10) hS10 he
      have le1 := clr_lt hS10 he
      obtain ⟨ihE, ihE2⟩ := ih (clr S e) (by omega) (by omega)
      -- a smaller set that holds e has e as its extreme one
      have sub : ∀ T, T < 2 ^ n → T.testBit e = true → (∀ i, T.testBit i = true → S.testBit i = true) → (G T = G (clr T e) ∨ ∃ y, T.testBit y = true ∧ e ≠ y ∧ p e y = true ∧ G T = w e y + G (clr (clr T e) y)) := by
        intro T hT hTe hTS
        have hT0 : T ≠ 0 := by rintro rfl; simp at hTe
        obtain ⟨e', he', hmin', -, -, q⟩ := hr T hT hT0
        have : e' = e := hle _ _ (hmin' e hTe) (hmin e' (hTS e' he'))
        subst this
        exact q
      refine ⟨fun a ha => ?_, fun a b ha hb hab hp => ?_⟩
      · by_cases hae : a = e
        · subst hae; exact r1
        have ha10 : a < 10 := tb_lt (n := 10) hS10 ha
        have l1 := clr_le S a
        have hTe : (clr S a).testBit e = true := by rw [clr_tb hS10 ha10, he]; simp [hae]
        have hca : (clr S e).testBit a = true := by rw [clr_tb hS10 he10, ha]; simp [Ne.symm hae]
        rcases sub (clr S a) (by omega) hTe (fun i hi => by rw [clr_tb hS10 ha10] at hi; simp at hi; exact hi.1) with q | ⟨y, hy, hey, hp, q⟩
        · rw [q, clr_comm hS10 ha10 he10]
          exact Nat.le_trans (ihE a hca) r1
        · rw [clr_tb hS10 ha10] at hy
          simp at hy
          obtain ⟨hy1, hy2⟩ := hy
          have hy10 : y < 10 := tb_lt (n := 10) hS10 hy1
          have hE10 : clr S e < 1024 := by omega
          have hyE : (clr S e).testBit y = true := by rw [clr_tb hS10 he10, hy1]; simp [hey]
          have l2 := clr_lt hE10 hyE
          have hU10 : clr (clr S e) y < 1024 := by omega
          have haU : (clr (clr S e) y).testBit a = true := by rw [clr_tb hE10 hy10, hca]; simp [Ne.symm hy2]
          have := (ih (clr (clr S e) y) (by omega) (by omega)).1 a haU
          have r := r2 y hy1 hey hp
          rw [q, clr_comm hS10 ha10 he10, clr_comm hE10 ha10 hy10]
          omega
      · have ha10 : a < 10 := tb_lt (n := 10) hS10 ha
        have hb10 : b < 10 := tb_lt (n := 10) hS10 hb
        by_cases hae : a = e
        · subst hae; exact r2 b hb hab hp
        by_cases hbe : b = e
        · subst hbe
          rw [clr_comm hS10 ha10 hb10, hws]
          exact r2 a ha (Ne.symm hab) (by rw [hps]; exact hp)
        have l1 := clr_le S a
        have l1' := clr_le (clr S a) b
        have hA10 : clr S a < 1024 := by omega
        have hE10 : clr S e < 1024 := by omega
        have hca : (clr S e).testBit a = true := by rw [clr_tb hS10 he10, ha]; simp [Ne.symm hae]
        have hcb : (clr S e).testBit b = true := by rw [clr_tb hS10 he10, hb]; simp [Ne.symm hbe]
        have hTe : (clr (clr S a) b).testBit e = true := by rw [clr_tb hA10 hb10, clr_tb hS10 ha10, he]; simp [hae, hbe]
        rcases sub (clr (clr S a) b) (by omega) hTe (fun i hi => by rw [clr_tb hA10 hb10, clr_tb hS10 ha10] at hi; simp at hi; exact hi.1.1) with q | ⟨y, hy, hey, hpy, q⟩
        · have := ihE2 a b hca hcb hab hp
          rw [q, clr_comm hA10 hb10 he10, clr_comm hS10 ha10 he10]
          omega
        · rw [clr_tb hA10 hb10, clr_tb hS10 ha10] at hy
          simp at hy
          obtain ⟨⟨hy1, hy2⟩, hy3⟩ := hy
          have hy10 : y < 10 := tb_lt (n := 10) hS10 hy1
          have hyE : (clr S e).testBit y = true := by rw [clr_tb hS10 he10, hy1]; simp [hey]
          have l2 := clr_lt hE10 hyE
          have hU10 : clr (clr S e) y < 1024 := by omega
          have haU : (clr (clr S e) y).testBit a = true := by rw [clr_tb hE10 hy10, hca]; simp [Ne.symm hy2]
          have hbU : (clr (clr S e) y).testBit b = true := by rw [clr_tb hE10 hy10, hcb]; simp [Ne.symm hy3]
          have := (ih (clr (clr S e) y) (by omega) (by omega)).2 a b haU hbU hab hp
          have r := r2 y hy1 hey hpy
          have hEa10 : clr (clr S e) a < 1024 := Nat.lt_of_le_of_lt (clr_le _ _) hE10
          rw [q, clr_comm hA10 hb10 he10, clr_comm hS10 ha10 he10, clr_comm hEa10 hb10 hy10, clr_comm hE10 ha10 hy10]
          omega
  refine ⟨h0, fun S hS => (main (S + 1) S (by omega) hS).1, fun S hS => (main (S + 1) S (by omega) hS).2, fun S hS hS0 => ?_⟩
  obtain ⟨e, he, -, -, -, q⟩ := hr S hS hS0
  exact ⟨e, he, q⟩
/-- one element against all others from i on -/
def mx (p : Nat → Nat → Bool) (w : Nat → Nat → Nat) (B : Nat → Nat) (e r : Nat) : Nat → Nat → Nat → Nat
  | 0, _, acc => acc
  | k + 1, i, acc => mx p w B e r k (i + 1) (if r.testBit i = true ∧ p e i = true then max acc (w e i + B (clr r i)) else acc)
theorem mx_ge0 {p : Nat → Nat → Bool} {w : Nat → Nat → Nat} {B : Nat → Nat} {e r : Nat} : ∀ k i acc, acc ≤ mx p w B e r k i acc := by
  intro k
  induction k with
  | zero => intro i acc; exact Nat.le_refl _
  | succ k ih =>
    intro i acc
    unfold mx
    refine Nat.le_trans ?_ (ih _ _)
    split
    · exact Nat.le_max_left _ _
    · exact Nat.le_refl _
theorem mx_ge {p : Nat → Nat → Bool} {w : Nat → Nat → Nat} {B : Nat → Nat} {e r : Nat} : ∀ k i acc y, i ≤ y → y < i + k → r.testBit y = true → p e y = true → w e y + B (clr r y) ≤ mx p w B e r k i acc := by
  intro k
  induction k with
  | zero => intro i acc y h1 h2; omega
  | succ k ih =>
    intro i acc y h1 h2 hr hp
    unfold mx
    by_cases hy : y = i
    · subst hy
      rw [if_pos ⟨hr, hp⟩]
      exact Nat.le_trans (Nat.le_max_right _ _) (mx_ge0 _ _ _)
    · exact ih (i + 1) _ y (by omega) (by omega) hr hp
theorem mx_att {p : Nat → Nat → Bool} {w : Nat → Nat → Nat} {B : Nat → Nat} {e r : Nat} : ∀ k i acc, mx p w B e r k i acc = acc ∨ ∃ y, i ≤ y ∧ y < i + k ∧ r.testBit y = true ∧ p e y = true ∧ mx p w B e r k i acc = w e y + B (clr r y) := by
  intro k
  induction k with
  | zero => intro i acc; exact Or.inl rfl
  | succ k ih =>
    intro i acc
    unfold mx
    rcases ih (i + 1) (if r.testBit i = true ∧ p e i = true then max acc (w e i + B (clr r i)) else acc) with q | ⟨y, h1, h2, h3, h4, h5⟩
    · rw [q]
      by_cases c : r.testBit i = true ∧ p e i = true
      · rw [if_pos c]
        rcases Nat.le_total acc (w e i + B (clr r i)) with m | m
        · rw [Nat.max_eq_right m]
          exact Or.inr ⟨i, Nat.le_refl _, by omega, c.1, c.2, rfl⟩
        · rw [Nat.max_eq_left m]; exact Or.inl rfl
      · rw [if_neg c]; exact Or.inl rfl
    · exact Or.inr ⟨y, by omega, by omega, h3, h4, h5⟩
theorem mx_congr {p : Nat → Nat → Bool} {w : Nat → Nat → Nat} {B B' : Nat → Nat} {e r : Nat} (h : ∀ s, s ≤ r → B' s = B s) : ∀ k i acc, mx p w B' e r k i acc = mx p w B e r k i acc := by
  intro k
  induction k with
  | zero => intro i acc; rfl
  | succ k ih =>
    intro i acc
    unfold mx
    rw [ih, h _ (clr_le r i)]
theorem mx_le {p : Nat → Nat → Bool} {w : Nat → Nat → Nat} {B : Nat → Nat} {e r X : Nat} (h : ∀ y, r.testBit y = true → p e y = true → w e y + B (clr r y) ≤ X) (k i acc : Nat) (ha : acc ≤ X) : mx p w B e r k i acc ≤ X := by
  rcases mx_att (p := p) (w := w) (B := B) (e := e) (r := r) k i acc with q | ⟨y, -, -, h3, h4, q⟩
  · rw [q]; exact ha
  · rw [q]; exact h y h3 h4
