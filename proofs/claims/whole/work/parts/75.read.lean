/-! ===== the class's reading: pure, and as it is written ===== -/
def bs (v : Nat) : Int32 := if v = 38 then -2 else if v = 42 then -8 else if v = 43 then -6 else if v = 45 then -7 else if v = 47 then -9 else if v = 60 then -3 else if v = 61 then -4 else if v = 62 then -5 else if v = 124 then -1 else 0
def rk (x : Int32) : Nat := if x = -1 then 1 else if x = -2 then 2 else if x < -5 then (if x < -7 then (if x < -9 then 6 else 5) else 4) else 3
def sh (b : Nat → Nat) (T : Tk) : Int32 := if T.1 = 3 then bs (b T.2.1) else 0
def nmS (K v : Nat) : Int32 := if K = 0 then (if v = 97 then 0 else if v = 98 then 1 else if v = 119 then 2 else -1) else if K = 1 then (if v = 120 then 0 else if v = 112 then 1 else -1) else (if v = 100 then 0 else if v = 108 then 1 else -1)
theorem nmS_c (K v : Nat) : nmS K v = -1 ∨ ∃ i, i < (if K = 0 then 3 else 2) ∧ nmS K v = nI i := by
  unfold nmS
  by_cases h0 : K = 0
  · rw [if_pos h0, if_pos h0]
    by_cases h1 : v = 97
    · rw [if_pos h1]; exact Or.inr ⟨0, by decide, rfl⟩
    · rw [if_neg h1]
      by_cases h2 : v = 98
      · rw [if_pos h2]; exact Or.inr ⟨1, by decide, rfl⟩
      · rw [if_neg h2]
        by_cases h3 : v = 119
        · rw [if_pos h3]; exact Or.inr ⟨2, by decide, rfl⟩
        · rw [if_neg h3]; exact Or.inl rfl
  · rw [if_neg h0, if_neg h0]
    by_cases hk : K = 1
    · rw [if_pos hk]
      by_cases h1 : v = 120
      · rw [if_pos h1]; exact Or.inr ⟨0, by decide, rfl⟩
      · rw [if_neg h1]
        by_cases h2 : v = 112
        · rw [if_pos h2]; exact Or.inr ⟨1, by decide, rfl⟩
        · rw [if_neg h2]; exact Or.inl rfl
    · rw [if_neg hk]
      by_cases h1 : v = 100
      · rw [if_pos h1]; exact Or.inr ⟨0, by decide, rfl⟩
      · rw [if_neg h1]
        by_cases h2 : v = 108
        · rw [if_pos h2]; exact Or.inr ⟨1, by decide, rfl⟩
        · rw [if_neg h2]; exact Or.inl rfl
theorem ch_v {v : Nat} (h1 : 97 ≤ v) (h2 : v ≤ 122) : ((nI v).toUInt32 % 65536).toInt32 = nI v ∧ (nI v).toInt8.toInt32 = nI v := by
  rcases (show v = 97 ∨ v = 98 ∨ v = 99 ∨ v = 100 ∨ v = 101 ∨ v = 102 ∨ v = 103 ∨ v = 104 ∨ v = 105 ∨ v = 106 ∨ v = 107 ∨ v = 108 ∨ v = 109 ∨ v = 110 ∨ v = 111 ∨ v = 112 ∨ v = 113 ∨ v = 114 ∨ v = 115 ∨ v = 116 ∨ v = 117 ∨ v = 118 ∨ v = 119 ∨ v = 120 ∨ v = 121 ∨ v = 122 by omega) with rfl | rfl | rfl | rfl | rfl | rfl | rfl | rfl | rfl | rfl | rfl | rfl | rfl | rfl | rfl | rfl | rfl | rfl | rfl | rfl | rfl | rfl | rfl | rfl | rfl | rfl <;> decide
theorem ix_0 {v : Nat} (h1 : 97 ≤ v) (h2 : v ≤ 122) (h : am_H) : fxJ1_indexOfChar_4cfef_b7 am_F (10 + (5 + 0)) 3 (nI v) 0 h = some (nmS 0 v, h) := by
  rcases (show v = 97 ∨ v = 98 ∨ v = 99 ∨ v = 100 ∨ v = 101 ∨ v = 102 ∨ v = 103 ∨ v = 104 ∨ v = 105 ∨ v = 106 ∨ v = 107 ∨ v = 108 ∨ v = 109 ∨ v = 110 ∨ v = 111 ∨ v = 112 ∨ v = 113 ∨ v = 114 ∨ v = 115 ∨ v = 116 ∨ v = 117 ∨ v = 118 ∨ v = 119 ∨ v = 120 ∨ v = 121 ∨ v = 122 by omega) with rfl | rfl | rfl | rfl | rfl | rfl | rfl | rfl | rfl | rfl | rfl | rfl | rfl | rfl | rfl | rfl | rfl | rfl | rfl | rfl | rfl | rfl | rfl | rfl | rfl | rfl <;> rfl
theorem ix_1 {v : Nat} (h1 : 97 ≤ v) (h2 : v ≤ 122) (h : am_H) : fxJ1_indexOfChar_4cfef_b7 am_F (10 + (5 + 1)) 2 (nI v) 0 h = some (nmS 1 v, h) := by
  rcases (show v = 97 ∨ v = 98 ∨ v = 99 ∨ v = 100 ∨ v = 101 ∨ v = 102 ∨ v = 103 ∨ v = 104 ∨ v = 105 ∨ v = 106 ∨ v = 107 ∨ v = 108 ∨ v = 109 ∨ v = 110 ∨ v = 111 ∨ v = 112 ∨ v = 113 ∨ v = 114 ∨ v = 115 ∨ v = 116 ∨ v = 117 ∨ v = 118 ∨ v = 119 ∨ v = 120 ∨ v = 121 ∨ v = 122 by omega) with rfl | rfl | rfl | rfl | rfl | rfl | rfl | rfl | rfl | rfl | rfl | rfl | rfl | rfl | rfl | rfl | rfl | rfl | rfl | rfl | rfl | rfl | rfl | rfl | rfl | rfl <;> rfl
theorem ix_2 {v : Nat} (h1 : 97 ≤ v) (h2 : v ≤ 122) (h : am_H) : fxJ1_indexOfChar_4cfef_b7 am_F (10 + (5 + 2)) 2 (nI v) 0 h = some (nmS 2 v, h) := by
  rcases (show v = 97 ∨ v = 98 ∨ v = 99 ∨ v = 100 ∨ v = 101 ∨ v = 102 ∨ v = 103 ∨ v = 104 ∨ v = 105 ∨ v = 106 ∨ v = 107 ∨ v = 108 ∨ v = 109 ∨ v = 110 ∨ v = 111 ∨ v = 112 ∨ v = 113 ∨ v = 114 ∨ v = 115 ∨ v = 116 ∨ v = 117 ∨ v = 118 ∨ v = 119 ∨ v = 120 ∨ v = 121 ∨ v = 122 by omega) with rfl | rfl | rfl | rfl | rfl | rfl | rfl | rfl | rfl | rfl | rfl | rfl | rfl | rfl | rfl | rfl | rfl | rfl | rfl | rfl | rfl | rfl | rfl | rfl | rfl | rfl <;> rfl
theorem q_indexOf {K v : Nat} (hK : K < 3) (h1 : 97 ≤ v) (h2 : v ≤ 122) (h : am_H) : fxJ0_indexOf_0f7a4 (5 + K) (((nI v).toUInt32 % 65536).toInt32) h = some (nmS K v, h) := by
  obtain ⟨e1, e2⟩ := ch_v h1 h2
  have c1 : (nI v < 0) = False := nlt0 (by omega)
  have c2 : ((255 : Int32) < nI v) = False := eq_false (nI_nlt (a := 255) (b := v) (by omega) (by decide))
  rw [e1]
  rcases (show K = 0 ∨ K = 1 ∨ K = 2 by omega) with rfl | rfl | rfl
  · simp only [fxJ0_indexOf_0f7a4, fxJ0_indexOf_7cf53, fxJ0_isLatin1_aae02, fxJ0_length_8abf5, fxJ0_coder_7d493, fxJ1_indexOf_4cfef, fxJ1_canEncode_9a6ad, fxJ1_indexOfChar_4cfef, am_gd_t, am_lt_e, am_bd_s, bi_0, bi_bz, bz0, bz1, nz2, nz10, nz100, hp_gi, hp_si, ↓reduceIte, if_true, if_false, Bool.true_eq_false, Bool.false_eq_true, eq_self, reduceCtorEq, one0, c1, c2, e2, show (Int32.ofNat (am_kb9 (10 + (5 + 0))).length >>> ((0 : Int32) &&& 31)) = 3 from by decide, show am_mmax (0 : Int32) 0 = 0 from by decide, show am_mmin (3 : Int32) (Int32.ofNat (am_kb9 (10 + (5 + 0))).length) = 3 from by decide, show ((0 : Int32) < 3) = True from by decide, ix_0 h1 h2]
  · simp only [fxJ0_indexOf_0f7a4, fxJ0_indexOf_7cf53, fxJ0_isLatin1_aae02, fxJ0_length_8abf5, fxJ0_coder_7d493, fxJ1_indexOf_4cfef, fxJ1_canEncode_9a6ad, fxJ1_indexOfChar_4cfef, am_gd_t, am_lt_e, am_bd_s, bi_0, bi_bz, bz0, bz1, nz2, nz10, nz100, hp_gi, hp_si, ↓reduceIte, if_true, if_false, Bool.true_eq_false, Bool.false_eq_true, eq_self, reduceCtorEq, one0, c1, c2, e2, show (Int32.ofNat (am_kb9 (10 + (5 + 1))).length >>> ((0 : Int32) &&& 31)) = 2 from by decide, show am_mmax (0 : Int32) 0 = 0 from by decide, show am_mmin (2 : Int32) (Int32.ofNat (am_kb9 (10 + (5 + 1))).length) = 2 from by decide, show ((0 : Int32) < 2) = True from by decide, ix_1 h1 h2]
  · simp only [fxJ0_indexOf_0f7a4, fxJ0_indexOf_7cf53, fxJ0_isLatin1_aae02, fxJ0_length_8abf5, fxJ0_coder_7d493, fxJ1_indexOf_4cfef, fxJ1_canEncode_9a6ad, fxJ1_indexOfChar_4cfef, am_gd_t, am_lt_e, am_bd_s, bi_0, bi_bz, bz0, bz1, nz2, nz10, nz100, hp_gi, hp_si, ↓reduceIte, if_true, if_false, Bool.true_eq_false, Bool.false_eq_true, eq_self, reduceCtorEq, one0, c1, c2, e2, show (Int32.ofNat (am_kb9 (10 + (5 + 2))).length >>> ((0 : Int32) &&& 31)) = 2 from by decide, show am_mmax (0 : Int32) 0 = 0 from by decide, show am_mmin (2 : Int32) (Int32.ofNat (am_kb9 (10 + (5 + 2))).length) = 2 from by decide, show ((0 : Int32) < 2) = True from by decide, ix_2 h1 h2]
/-- where the reading is: the token, what has been told of the text (the reference's codes, the last one first), how many numbers and names -/
abbrev PS : Type := Tk × List Int32 × Nat
noncomputable def dLo (b : Nat → Nat) (n : Nat) (fL : PS → PS × Bool) (l : Nat) : Nat → PS → PS × Bool
  | 0, s => (s, true)
  | k + 1, s => if ¬ sh b s.1 = 0 ∧ rk (sh b s.1) = l + 1 then (if (fL (nx b n s.1, s.2)).2 = true then (if l = 2 then (((fL (nx b n s.1, s.2)).1.1, sh b s.1 :: (fL (nx b n s.1, s.2)).1.2.1, (fL (nx b n s.1, s.2)).1.2.2), true) else dLo b n fL l k ((fL (nx b n s.1, s.2)).1.1, sh b s.1 :: (fL (nx b n s.1, s.2)).1.2.1, (fL (nx b n s.1, s.2)).1.2.2)) else fL (nx b n s.1, s.2)) else (s, true)
noncomputable def dPc (b : Nat → Nat) (n K : Nat) (fL : Nat → Nat → Nat → PS → PS × Bool) (fP : Nat → Nat → PS → PS × Bool) (op no : Nat) (s : PS) : PS × Bool :=
  if s.1.1 = 2 then ((nx b n s.1, nI (dv b s.1.2.1 (s.1.2.2 - s.1.2.1)) :: s.2.1, s.2.2 + 1), true)
  else if s.1.1 = 1 then (if s.1.2.2 - s.1.2.1 = 1 ∧ 0 ≤ nmS K (b s.1.2.1) then ((nx b n s.1, (10000 + nmS K (b s.1.2.1)) :: s.2.1, s.2.2 + 1), true) else (s, false))
  else if s.1.1 = 3 ∧ b s.1.2.1 = 33 ∧ no < 8 then (if (fP op (no + 1) (nx b n s.1, s.2)).2 = true then (((fP op (no + 1) (nx b n s.1, s.2)).1.1, -10 :: (fP op (no + 1) (nx b n s.1, s.2)).1.2.1, (fP op (no + 1) (nx b n s.1, s.2)).1.2.2), true) else fP op (no + 1) (nx b n s.1, s.2))
  else if s.1.1 = 3 ∧ b s.1.2.1 = 40 ∧ op < 8 then (if (fL 0 (op + 1) no (nx b n s.1, s.2)).2 = true then (if (fL 0 (op + 1) no (nx b n s.1, s.2)).1.1.1 = 3 ∧ b (fL 0 (op + 1) no (nx b n s.1, s.2)).1.1.2.1 = 41 then ((nx b n (fL 0 (op + 1) no (nx b n s.1, s.2)).1.1, (fL 0 (op + 1) no (nx b n s.1, s.2)).1.2), true) else ((fL 0 (op + 1) no (nx b n s.1, s.2)).1, false)) else fL 0 (op + 1) no (nx b n s.1, s.2))
  else (s, false)
noncomputable def dLv (b : Nat → Nat) (n : Nat) (fL : Nat → Nat → Nat → PS → PS × Bool) (fP : Nat → Nat → PS → PS × Bool) (l op no : Nat) (s : PS) : PS × Bool :=
  if l < 5 then (if (fL (l + 1) op no s).2 = true then dLo b n (fL (l + 1) op no) l 96 (fL (l + 1) op no s).1 else fL (l + 1) op no s) else fP op no s
noncomputable def dlp (b : Nat → Nat) (n K : Nat) : Nat → (Nat → Nat → Nat → PS → PS × Bool) × (Nat → Nat → PS → PS × Bool)
  | 0 => (fun _ _ _ s => (s, false), fun _ _ s => (s, false))
  | f + 1 => (dLv b n (dlp b n K f).1 (dlp b n K f).2, dPc b n K (dlp b n K f).1 (dlp b n K f).2)
/-- how it may go on: the token stands on the tape; the codes are no more than the bytes -/
def PI (b : Nat → Nat) (n : Nat) (s : PS) : Prop := TkOk b n s.1 ∧ s.2.1.length ≤ s.1.2.1
def PG (b : Nat → Nat) (n : Nat) (s : PS) (r : PS × Bool) : Prop := TkOk b n r.1.1 ∧ s.1.2.1 ≤ r.1.1.2.1 ∧ (r.2 = true → r.1.2.1.length + s.1.2.1 ≤ s.2.1.length + r.1.1.2.1)
theorem PG_self {b : Nat → Nat} {n : Nat} {s : PS} (h : TkOk b n s.1) (ok : Bool) : PG b n s (s, ok) := ⟨h, Nat.le_refl _, fun _ => Nat.le_refl _⟩
theorem nx_go {b : Nat → Nat} {n : Nat} {T : Tk} (h : TkOk b n T) (h0 : T.1 ≠ 0) : TkOk b n (nx b n T) ∧ T.2.1 + 1 ≤ (nx b n T).2.1 := by
  obtain ⟨h1, h2⟩ := nx_ok (b := b) (n := n) (T := T) h.2.1
  have := (h.2.2.2.1 h0).2
  exact ⟨h1, by omega⟩
theorem sh_3 {b : Nat → Nat} {T : Tk} (h : ¬ sh b T = 0) : T.1 = 3 := by
  unfold sh at h
  exact Classical.byContradiction fun q => h (if_neg q)
theorem dLo_g {b : Nat → Nat} {n l : Nat} {fL : PS → PS × Bool} (hL : ∀ s, TkOk b n s.1 → PG b n s (fL s)) : ∀ k s, TkOk b n s.1 → PG b n s (dLo b n fL l k s) := by
  intro k
  induction k with
  | zero => intro s h; exact PG_self h true
  | succ k ih =>
    intro s h
    unfold dLo
    split
    · next q =>
      have h3 := sh_3 q.1
      obtain ⟨g1, g2⟩ := nx_go h (by omega)
      obtain ⟨r1, r2, r3⟩ := hL (nx b n s.1, s.2) g1
      generalize fL (nx b n s.1, s.2) = r at *
      dsimp only at r2 r3
      split
      · next ok =>
        have r3 := r3 ok
        split
        · refine ⟨r1, by dsimp only; omega, fun _ => ?_⟩
          simp only [List.length_cons]
          omega
        · obtain ⟨t1, t2, t3⟩ := ih (r.1.1, sh b s.1 :: r.1.2.1, r.1.2.2) r1
          generalize dLo b n fL l k (r.1.1, sh b s.1 :: r.1.2.1, r.1.2.2) = t at *
          dsimp only at t2 t3
          refine ⟨t1, by omega, fun ok2 => ?_⟩
          have t3 := t3 ok2
          simp only [List.length_cons] at t3
          omega
      · next ok => exact ⟨r1, by omega, fun q => absurd q ok⟩
    · exact PG_self h true
theorem dlp_g {b : Nat → Nat} {n K : Nat} : ∀ f, (∀ l op no s, TkOk b n s.1 → PG b n s ((dlp b n K f).1 l op no s)) ∧ (∀ op no s, TkOk b n s.1 → PG b n s ((dlp b n K f).2 op no s)) := by
  intro f
  induction f with
  | zero => exact ⟨fun l op no s h => PG_self h false, fun op no s h => PG_self h false⟩
  | succ f ih =>
    obtain ⟨iL, iP⟩ := ih
    refine ⟨fun l op no s h => ?_, fun op no s h => ?_⟩
    · show PG b n s (dLv b n (dlp b n K f).1 (dlp b n K f).2 l op no s)
      unfold dLv
      split
      · obtain ⟨r1, r2, r3⟩ := iL (l + 1) op no s h
        split
        · next ok =>
          have r3 := r3 ok
          obtain ⟨t1, t2, t3⟩ := dLo_g (l := l) (iL (l + 1) op no) 96 ((dlp b n K f).1 (l + 1) op no s).1 r1
          exact ⟨t1, by omega, fun ok2 => by have t3 := t3 ok2; omega⟩
        · exact ⟨r1, r2, r3⟩
      · exact iP op no s h
    · show PG b n s (dPc b n K (dlp b n K f).1 (dlp b n K f).2 op no s)
      unfold dPc
      split
      · next q =>
        obtain ⟨g1, g2⟩ := nx_go h (by omega)
        refine ⟨g1, by dsimp only; omega, fun _ => ?_⟩
        simp only [List.length_cons]
        omega
      · split
        · next q =>
          obtain ⟨g1, g2⟩ := nx_go h (by omega)
          split
          · refine ⟨g1, by dsimp only; omega, fun _ => ?_⟩
            simp only [List.length_cons]
            omega
          · exact PG_self h false
        · split
          · next q =>
            obtain ⟨g1, g2⟩ := nx_go h (by omega)
            obtain ⟨r1, r2, r3⟩ := iP op (no + 1) (nx b n s.1, s.2) g1
            generalize (dlp b n K f).2 op (no + 1) (nx b n s.1, s.2) = r at *
            dsimp only at r2 r3
            split
            · next ok =>
              have r3 := r3 ok
              refine ⟨r1, by dsimp only; omega, fun _ => ?_⟩
              simp only [List.length_cons]
              omega
            · next ok => exact ⟨r1, by omega, fun q => absurd q ok⟩
          · split
            · next q =>
              obtain ⟨g1, g2⟩ := nx_go h (by omega)
              obtain ⟨r1, r2, r3⟩ := iL 0 (op + 1) no (nx b n s.1, s.2) g1
              generalize (dlp b n K f).1 0 (op + 1) no (nx b n s.1, s.2) = r at *
              dsimp only at r2 r3
              split
              · next ok =>
                have r3 := r3 ok
                split
                · next q2 =>
                  obtain ⟨u1, u2⟩ := nx_go r1 (by omega)
                  exact ⟨u1, by dsimp only; omega, fun _ => by dsimp only; omega⟩
                · exact ⟨r1, by dsimp only; omega, fun q => by cases q⟩
              · next ok => exact ⟨r1, by omega, fun q => absurd q ok⟩
            · exact PG_self h false
