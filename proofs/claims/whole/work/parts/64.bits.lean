/-! ===== sets by bits ===== -/
theorem nw_and (a b : Nat) : nI a &&& nI b = nI (a &&& b) := by
  apply Int32.toBitVec_inj.1
  show BitVec.ofNat 32 a &&& BitVec.ofNat 32 b = BitVec.ofNat 32 (a &&& b)
  apply BitVec.eq_of_getLsbD_eq
  intro i hi
  simp [hi]
theorem nw_or (a b : Nat) : nI a ||| nI b = nI (a ||| b) := by
  apply Int32.toBitVec_inj.1
  show BitVec.ofNat 32 a ||| BitVec.ofNat 32 b = BitVec.ofNat 32 (a ||| b)
  apply BitVec.eq_of_getLsbD_eq
  intro i hi
  simp [hi]
def clr (S a : Nat) : Nat := S &&& (2 ^ 32 - (2 ^ a + 1))
theorem pow32 {a : Nat} (ha : a < 10) : 2 ^ a < 2 ^ 32 := Nat.pow_lt_pow_right (by decide) (by omega)
theorem clr_tb {S a : Nat} (hS : S < 1024) (ha : a < 10) (i : Nat) : (clr S a).testBit i = (S.testBit i && !decide (a = i)) := by
  unfold clr
  rw [Nat.testBit_and, Nat.testBit_two_pow_sub_succ (pow32 ha), Nat.testBit_two_pow]
  by_cases hi : i < 32
  · simp [hi]
  · have : S.testBit i = false := Nat.testBit_lt_two_pow (by
      have := (Nat.pow_le_pow_right (by decide) (show 10 ≤ i by omega) : 2 ^ 10 ≤ 2 ^ i)
      omega)
    simp [this]
theorem clr_le (S a : Nat) : clr S a ≤ S := Nat.and_le_left
theorem tb_lt {S i n : Nat} (hS : S < 2 ^ n) (h : S.testBit i = true) : i < n := by
  rcases Nat.lt_or_ge i n with q | q
  · exact q
  · rw [Nat.testBit_lt_two_pow (Nat.lt_of_lt_of_le hS (Nat.pow_le_pow_right (by decide) q))] at h
    cases h
theorem clr_lt {S a : Nat} (hS : S < 1024) (h : S.testBit a = true) : clr S a < S := by
  have ha : a < 10 := tb_lt (n := 10) hS h
  rcases Nat.lt_or_ge (clr S a) S with q | q
  · exact q
  · exfalso
    have e : clr S a = S := Nat.le_antisymm (clr_le S a) q
    have := clr_tb hS ha a
    rw [e, h] at this
    simp at this
theorem clr_comm {S a b : Nat} (hS : S < 1024) (ha : a < 10) (hb : b < 10) : clr (clr S a) b = clr (clr S b) a := by
  have h1 := Nat.lt_of_le_of_lt (clr_le S a) hS
  have h2 := Nat.lt_of_le_of_lt (clr_le S b) hS
  apply Nat.eq_of_testBit_eq
  intro i
  rw [clr_tb h1 hb, clr_tb h2 ha, clr_tb hS ha, clr_tb hS hb]
  cases S.testBit i <;> cases decide (a = i) <;> cases decide (b = i) <;> rfl
theorem q_not {a : Nat} (ha : a < 10) : (((1 : Int32) <<< (nI a &&& 31)) ^^^ (-1 : Int32)) = nI (2 ^ 32 - (2 ^ a + 1)) := by
  rcases (show a = 0 ∨ a = 1 ∨ a = 2 ∨ a = 3 ∨ a = 4 ∨ a = 5 ∨ a = 6 ∨ a = 7 ∨ a = 8 ∨ a = 9 by omega) with rfl | rfl | rfl | rfl | rfl | rfl | rfl | rfl | rfl | rfl <;> decide
theorem q_clr {S a : Nat} (ha : a < 10) : nI S &&& (((1 : Int32) <<< (nI a &&& 31)) ^^^ (-1 : Int32)) = nI (clr S a) := by
  rw [q_not ha, nw_and]
  rfl
theorem q_shl {a : Nat} (ha : a < 11) : (1 : Int32) <<< (nI a &&& 31) = nI (2 ^ a) := by
  rcases (show a = 0 ∨ a = 1 ∨ a = 2 ∨ a = 3 ∨ a = 4 ∨ a = 5 ∨ a = 6 ∨ a = 7 ∨ a = 8 ∨ a = 9 ∨ a = 10 by omega) with rfl | rfl | rfl | rfl | rfl | rfl | rfl | rfl | rfl | rfl | rfl <;> decide
theorem q_sm {a : Nat} (ha : a < 11) : ((nI a &&& 31).toBitVec.smod 32).toNat = a := by
  rcases (show a = 0 ∨ a = 1 ∨ a = 2 ∨ a = 3 ∨ a = 4 ∨ a = 5 ∨ a = 6 ∨ a = 7 ∨ a = 8 ∨ a = 9 ∨ a = 10 by omega) with rfl | rfl | rfl | rfl | rfl | rfl | rfl | rfl | rfl | rfl | rfl <;> decide
theorem q_shr {S a : Nat} (hS : S < 1024) (ha : a < 11) : (nI S >>> (nI a &&& 31)) &&& (1 : Int32) = nI (S / 2 ^ a % 2) := by
  rw [pk_shrN (by omega) _ a (q_sm ha)]
  have : S / 2 ^ a ≤ S := Nat.div_le_self _ _
  exact pk_andN (by omega) 1 (by decide)
theorem bit1 {S a : Nat} (hS : S < 1024) (ha : a < 11) : ((nI S >>> (nI a &&& 31)) &&& (1 : Int32) = 1) = (S.testBit a = true) := by
  rw [q_shr hS ha, Nat.testBit_eq_decide_div_mod_eq]
  have : S / 2 ^ a % 2 < 2 := Nat.mod_lt _ (by decide)
  apply propext
  rw [decide_eq_true_eq]
  exact nI_eq (b := 1) (by omega) (by decide)
theorem bit0 {S a : Nat} (hS : S < 1024) (ha : a < 11) : ((nI S >>> (nI a &&& 31)) &&& (1 : Int32) = 0) = (S.testBit a = false) := by
  rw [q_shr hS ha, Nat.testBit_eq_decide_div_mod_eq]
  have : S / 2 ^ a % 2 < 2 := Nat.mod_lt _ (by decide)
  apply propext
  rw [decide_eq_false_iff_not]
  constructor
  · intro h
    have := (nI_eq (b := 0) (by omega) (by decide)).mp h
    omega
  · intro h
    rw [show S / 2 ^ a % 2 = 0 by omega]; rfl
theorem p_or {b o : Nat} (ho : o < 2 ^ b) : 2 ^ b + o = 2 ^ b ||| o := by
  have := Nat.two_pow_add_eq_or_of_lt ho 1
  rw [Nat.mul_one] at this
  exact this
theorem q_orb {b o : Nat} (ho : o < 2 ^ b) : nI (2 ^ b) ||| nI o = nI (2 ^ b + o) := by
  rw [nw_or, p_or ho]
theorem all_tb {n i : Nat} : (2 ^ n - 1).testBit i = decide (i < n) := Nat.testBit_two_pow_sub_one n i
theorem hi_tb {h o : Nat} (ho : o < 2 ^ h) : (2 ^ h + o).testBit h = true := by
  rw [p_or ho, Nat.testBit_or, Nat.testBit_two_pow_self]
  rfl
theorem hi_le {h o i : Nat} (ho : o < 2 ^ h) (q : (2 ^ h + o).testBit i = true) : i ≤ h := by
  have : 2 ^ h + o < 2 ^ (h + 1) := by rw [Nat.pow_succ]; omega
  have := tb_lt this q
  omega
theorem hi_clr {h o : Nat} (hh : h < 10) (ho : o < 2 ^ h) : clr (2 ^ h + o) h = o := by
  have h2 : 2 ^ h + o < 1024 := by
    have : 2 ^ (h + 1) ≤ 2 ^ 10 := Nat.pow_le_pow_right (by decide) (by omega)
    rw [Nat.pow_succ] at this
    omega
  apply Nat.eq_of_testBit_eq
  intro i
  rw [clr_tb h2 hh, p_or ho, Nat.testBit_or, Nat.testBit_two_pow]
  by_cases e : h = i
  · subst e
    simp [Nat.testBit_lt_two_pow ho]
  · simp [e]
/-- every set but the empty one has a highest element -/
theorem hi_ex {n : Nat} : ∀ {S : Nat}, S < 2 ^ n → S ≠ 0 → ∃ h o, h < n ∧ S = 2 ^ h + o ∧ o < 2 ^ h := by
  induction n with
  | zero => intro S h h0; simp at h; omega
  | succ n ih =>
    intro S h h0
    by_cases q : S < 2 ^ n
    · obtain ⟨a, o, h1, h2, h3⟩ := ih q h0
      exact ⟨a, o, by omega, h2, h3⟩
    · rw [Nat.pow_succ] at h
      exact ⟨n, S - 2 ^ n, by omega, by omega, by omega⟩
theorem tb_ex {S : Nat} (h0 : S ≠ 0) (hS : S < 1024) : ∃ i, i < 10 ∧ S.testBit i = true := by
  obtain ⟨h, o, h1, h2, h3⟩ := hi_ex (n := 10) hS h0
  exact ⟨h, h1, by rw [h2]; exact hi_tb h3⟩
