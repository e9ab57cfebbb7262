/-! ===== both ways of reading come to the same ===== -/
def clo (r : Nat) : List Int32 → Prop
  | [] => True
  | x :: _ => x = -11 ∨ rk x < r
theorem clo_stl {r : Nat} {W : List Int32} (h : clo r W) (c : List Int32) : stl r W c = (W, c) := by
  cases W with
  | nil => rfl
  | cons x W =>
    have h' : x = -11 ∨ rk x < r := h
    unfold stl
    rw [if_pos h']
theorem clo_le {r r' : Nat} (hr : r ≤ r') {W : List Int32} (h : clo r W) : clo r' W := by
  cases W with
  | nil => trivial
  | cons x W =>
    rcases h with h | h
    · exact Or.inl h
    · exact Or.inr (by omega)
theorem stl_comp {r r' : Nat} (hr : r ≤ r') : ∀ W c, stl r (stl r' W c).1 (stl r' W c).2 = stl r W c := by
  intro W
  induction W with
  | nil => intro c; rfl
  | cons x W ih =>
    intro c
    rw [show stl r' (x :: W) c = (if x = -11 ∨ rk x < r' then (x :: W, c) else stl r' W (x :: c)) from rfl]
    by_cases q : x = -11 ∨ rk x < r'
    · rw [if_pos q]
    · rw [if_neg q, ih]
      rw [show stl r (x :: W) c = (if x = -11 ∨ rk x < r then (x :: W, c) else stl r W (x :: c)) from rfl, if_neg (fun z => q (by rcases z with z | z; exact Or.inl z; exact Or.inr (by omega)))]
theorem bs_c {v : Nat} (h : ¬ bs v = 0) : 1 ≤ rk (bs v) ∧ rk (bs v) ≤ 5 ∧ -11 ≤ bs v ∧ bs v ≠ -11 ∧ bs v ≠ -10 := by
  by_cases q : v = 38 ∨ v = 42 ∨ v = 43 ∨ v = 45 ∨ v = 47 ∨ v = 60 ∨ v = 61 ∨ v = 62 ∨ v = 124
  · rcases q with rfl | rfl | rfl | rfl | rfl | rfl | rfl | rfl | rfl <;> decide
  · exact absurd (by unfold bs; repeat' rw [if_neg (by omega)]) h
theorem sh_c {b : Nat → Nat} {T : Tk} (h : ¬ sh b T = 0) : 1 ≤ rk (sh b T) ∧ rk (sh b T) ≤ 5 ∧ -11 ≤ sh b T ∧ sh b T ≠ -11 ∧ sh b T ≠ -10 := by
  have h3 := sh_3 h
  have e : sh b T = bs (b T.2.1) := by unfold sh; rw [if_pos h3]
  rw [e] at h ⊢
  exact bs_c h
def OkL (lp : Nat) (M : Mem) (b : Nat → Nat) (n l op : Nat) (W : List Int32) (ts : Nat → Bool) (p0 : Nat) (wn0 : Bool) (W0 : List Int32) (X0 : Mem) (r : PS × Bool) : Prop := ∃ (k : Nat) (X' : Mem) (W' c' : List Int32) (ts' : Nat → Bool), k + p0 ≤ r.1.1.2.1 ∧ YM M b n r.1.1 false W' c' r.1.2.2 ts' X' ∧ (∀ fuel, rn lp (fuel + k) wn0 W0 X0 = rn lp fuel false W' X') ∧ stl (l + 1) W' c' = (W, r.1.2.1) ∧ (∀ j, j < op → ts' j = ts j) ∧ (3 ≤ l → ts' op = ts op) ∧ (¬ sh b r.1.1 = 0 → rk (sh b r.1.1) ≤ l ∨ (rk (sh b r.1.1) = 3 ∧ ts' op = true))
def FlL (lp : Nat) (M : Mem) (p0 : Nat) (wn0 : Bool) (W0 : List Int32) (X0 : Mem) (r : PS × Bool) : Prop := ∃ (k : Nat) (X' : Mem), k + p0 ≤ r.1.1.2.1 ∧ FR M r.1.1.2.1 X' ∧ ∀ fuel, rn lp (fuel + k + 1) wn0 W0 X0 = some (0, hp lp X')
def OkP (lp : Nat) (M : Mem) (b : Nat → Nat) (n op : Nat) (W : List Int32) (ts : Nat → Bool) (p0 : Nat) (X0 : Mem) (r : PS × Bool) : Prop := ∃ (k : Nat) (X' : Mem) (ts' : Nat → Bool), k + p0 ≤ r.1.1.2.1 ∧ YM M b n r.1.1 false (stl 6 W r.1.2.1).1 (stl 6 W r.1.2.1).2 r.1.2.2 ts' X' ∧ (∀ fuel, rn lp (fuel + k) true W X0 = rn lp fuel false (stl 6 W r.1.2.1).1 X') ∧ ∀ j, j ≤ op → ts' j = ts j
/-- one level, with the next one under it -/
def LvB (lp : Nat) (M : Mem) (b : Nat → Nat) (n : Nat) (fL : PS → PS × Bool) (l op no : Nat) : Prop := ∀ s W ts X, YM M b n s.1 true W s.2.1 s.2.2 ts X → opN W = op → noN W = no → clo (l + 1) W → (l ≤ 2 → ts op = false) → ((fL s).2 = true → OkL lp M b n l op W ts s.1.2.1 true W X (fL s)) ∧ ((fL s).2 = false → FlL lp M s.1.2.1 true W X (fL s))
theorem lo_B {lp n l op no : Nat} {b : Nat → Nat} {M : Mem} {fL : PS → PS × Bool} {W : List Int32} (hB : TpR M b n) (hl : l ≤ 4) (hop : opN W = op) (hno : noN W = no) (hcl : clo (l + 1) W) (hIH : LvB lp M b n fL (l + 1) op no) : ∀ k s X W1 c1 ts, 96 ≤ k + s.1.2.1 → YM M b n s.1 false W1 c1 s.2.2 ts X → stl (l + 1) W1 c1 = (W, s.2.1) → (¬ sh b s.1 = 0 → rk (sh b s.1) ≤ l + 1 ∨ (rk (sh b s.1) = 3 ∧ ts op = true)) → (l = 2 → ts op = false) → ((dLo b n fL l k s).2 = true → OkL lp M b n l op W ts s.1.2.1 false W1 X (dLo b n fL l k s)) ∧ ((dLo b n fL l k s).2 = false → FlL lp M s.1.2.1 false W1 X (dLo b n fL l k s)) := by
  have hn := hB.1
  intro k
  induction k with
  | zero =>
    intro s X W1 c1 ts hk hY hs he h2
    refine ⟨fun _ => ⟨0, X, W1, c1, ts, by show 0 + s.1.2.1 ≤ s.1.2.1; omega, hY, fun fuel => rfl, hs, fun _ _ => rfl, fun _ => rfl, fun hsh => ?_⟩, fun q => by cases q⟩
    exfalso
    have h3 : s.1.1 = 3 := sh_3 hsh
    obtain ⟨N, vl, ed, -, hT, -⟩ := hY
    have := (hT.2.2.2.1 (by omega)).1
    omega
  | succ k ih =>
    intro s X W1 c1 ts hk hY hs he h2
    by_cases hc : ¬ sh b s.1 = 0 ∧ rk (sh b s.1) = l + 1
    · have h3 := sh_3 hc.1
      obtain ⟨x1, x2, x3, x4, x5⟩ := sh_c hc.1
      have hTk : TkOk b n s.1 := by obtain ⟨N, vl, ed, -, hT, -⟩ := hY; exact hT
      obtain ⟨g1, g2⟩ := nx_go hTk (by omega)
      have hopW1 : opN W1 = op := by have := stl_op (l + 1) W1 c1; rw [hs] at this; rw [← this]; exact hop
      obtain ⟨X2, y1, y2⟩ := st_sign (lp := lp) hB hY hc.1 (by
        rw [hopW1]
        intro q
        have : l = 2 := by omega
        rw [h2 this] at q
        exact absurd q.2 (by decide)) x2 x3 x4 x5
      rw [hc.2, hs] at y1 y2
      dsimp only at y1 y2
      generalize htn : (fun j => if j = opN W1 then (decide (l + 1 = 3) || (decide (3 < l + 1) && ts j)) else ts j) = tn at y1
      have tn1 : ∀ j, j < op → tn j = ts j := fun j hj => by rw [← htn]; dsimp only; rw [if_neg (by omega)]
      have tn2 : tn op = (decide (l + 1 = 3) || (decide (3 < l + 1) && ts op)) := by rw [← htn]; dsimp only; rw [if_pos hopW1.symm]
      obtain ⟨iOk, iFl⟩ := hIH (nx b n s.1, s.2) (sh b s.1 :: W) tn X2 y1 (by rw [op_c _ _ x4]; exact hop) (by rw [no_c _ _ x5]; exact hno) (Or.inr (by rw [hc.2]; omega)) (fun q => by rw [tn2, decide_eq_false (by omega), decide_eq_false (by omega)]; rfl)
      have hun : dLo b n fL l (k + 1) s = (if (fL (nx b n s.1, s.2)).2 = true then (if l = 2 then (((fL (nx b n s.1, s.2)).1.1, sh b s.1 :: (fL (nx b n s.1, s.2)).1.2.1, (fL (nx b n s.1, s.2)).1.2.2), true) else dLo b n fL l k ((fL (nx b n s.1, s.2)).1.1, sh b s.1 :: (fL (nx b n s.1, s.2)).1.2.1, (fL (nx b n s.1, s.2)).1.2.2)) else fL (nx b n s.1, s.2)) := by
        rw [dLo, if_pos hc]
      rw [hun]
      generalize fL (nx b n s.1, s.2) = r at *
      cases hok : r.2 with
      | false =>
        rw [if_neg (by decide)]
        refine ⟨(fun q => by rw [hok] at q; cases q), fun _ => ?_⟩
        obtain ⟨k1, X3, u1, u2, u3⟩ := iFl hok
        dsimp only at u1
        refine ⟨k1 + 1, X3, by omega, u2, fun fuel => ?_⟩
        have := y2 (fuel + k1 + 1)
        rw [u3] at this
        rw [← this]
        congr 1
      | true =>
        rw [if_pos rfl]
        obtain ⟨k1, X3, W3, c3, t3, u1, u2, u3, u4, u5, u6, u7⟩ := iOk hok
        dsimp only at u1
        have hs3 : stl (l + 1) W3 c3 = (W, sh b s.1 :: r.1.2.1) := by
          rw [← stl_comp (show l + 1 ≤ l + 1 + 1 by omega) W3 c3, u4]
          dsimp only
          rw [show stl (l + 1) (sh b s.1 :: W) r.1.2.1 = (if sh b s.1 = -11 ∨ rk (sh b s.1) < l + 1 then (sh b s.1 :: W, r.1.2.1) else stl (l + 1) W (sh b s.1 :: r.1.2.1)) from rfl, if_neg (by rintro (z | z); exact x4 z; omega)]
          exact clo_stl hcl _
        have reach : ∀ fuel, rn lp (fuel + (k1 + 1)) false W1 X = rn lp fuel false W3 X3 := fun fuel => by
          rw [← u3 fuel, ← y2 (fuel + k1)]
          congr 1
        by_cases hl2 : l = 2
        · rw [if_pos hl2]
          refine ⟨fun _ => ⟨k1 + 1, X3, W3, c3, t3, by dsimp only; omega, u2, reach, hs3, fun j hj => by rw [u5 j hj, tn1 j hj], fun q => by omega, fun hsh => ?_⟩, fun q => by cases q⟩
          have ht3 : t3 op = true := by rw [u6 (by omega), tn2, decide_eq_true (by omega)]; rfl
          rcases u7 hsh with q | q
          · by_cases q2 : rk (sh b r.1.1) = 3
            · exact Or.inr ⟨q2, ht3⟩
            · refine Or.inl ?_
              show rk (sh b r.1.1) ≤ l
              omega
          · exact Or.inr q
        · rw [if_neg hl2]
          obtain ⟨jOk, jFl⟩ := ih (r.1.1, sh b s.1 :: r.1.2.1, r.1.2.2) X3 W3 c3 t3 (by dsimp only; omega) u2 hs3 u7 (fun q => absurd q hl2)
          refine ⟨fun q => ?_, fun q => ?_⟩
          · obtain ⟨k2, X4, W4, c4, t4, v1, v2, v3, v4, v5, v6, v7⟩ := jOk q
            dsimp only at v1
            refine ⟨k2 + (k1 + 1), X4, W4, c4, t4, by omega, v2, fun fuel => ?_, v4, fun j hj => by rw [v5 j hj, u5 j hj, tn1 j hj], fun q3 => ?_, v7⟩
            · rw [← v3 fuel, ← reach (fuel + k2)]
              congr 1
              omega
            · rw [v6 q3, u6 (by omega), tn2, decide_eq_false (by omega), decide_eq_true (by omega)]
              rfl
          · obtain ⟨k2, X4, v1, v2, v3⟩ := jFl q
            dsimp only at v1
            refine ⟨k2 + (k1 + 1), X4, by omega, v2, fun fuel => ?_⟩
            rw [← v3 fuel, ← reach (fuel + k2 + 1)]
            congr 1
            omega
    · have hd : dLo b n fL l (k + 1) s = (s, true) := by rw [dLo, if_neg hc]
      rw [hd]
      refine ⟨fun _ => ⟨0, X, W1, c1, ts, by show 0 + s.1.2.1 ≤ s.1.2.1; omega, hY, fun fuel => rfl, hs, fun _ _ => rfl, fun _ => rfl, fun hsh => ?_⟩, fun q => by cases q⟩
      rcases he hsh with q | q
      · refine Or.inl ?_
        have : rk (sh b s.1) ≠ l + 1 := fun z => hc ⟨hsh, z⟩
        show rk (sh b s.1) ≤ l
        omega
      · exact Or.inr q
def PcB (lp : Nat) (M : Mem) (b : Nat → Nat) (n : Nat) (fP : PS → PS × Bool) (op no : Nat) : Prop := ∀ s W ts X, YM M b n s.1 true W s.2.1 s.2.2 ts X → opN W = op → noN W = no → ((fP s).2 = true → OkP lp M b n op W ts s.1.2.1 X (fP s)) ∧ ((fP s).2 = false → FlL lp M s.1.2.1 true W X (fP s))
theorem pc_B {lp n K op no : Nat} {b : Nat → Nat} {M : Mem} {fL : Nat → Nat → Nat → PS → PS × Bool} {fP : Nat → Nat → PS → PS × Bool} (hK : K < 3) (e15 : M 121 15 = nI K) (hB : TpR M b n) (iL : op < 8 → LvB lp M b n (fL 0 (op + 1) no) 0 (op + 1) no) (iP : no < 8 → PcB lp M b n (fP op (no + 1)) op (no + 1)) : PcB lp M b n (dPc b n K fL fP op no) op no := by
  intro s W ts X hY hop hno
  have hn := hB.1
  have hT : TkOk b n s.1 := by obtain ⟨N, vl, ed, -, hT, -⟩ := hY; exact hT
  by_cases h2 : s.1.1 = 2
  · have hd : dPc b n K fL fP op no s = ((nx b n s.1, nI (dv b s.1.2.1 (s.1.2.2 - s.1.2.1)) :: s.2.1, s.2.2 + 1), true) := by unfold dPc; rw [if_pos h2]
    rw [hd]
    obtain ⟨g1, g2⟩ := nx_go hT (by omega)
    obtain ⟨X', p1, p2⟩ := st_part (lp := lp) (x := nI (dv b s.1.2.1 (s.1.2.2 - s.1.2.1))) hK e15 hB hY (Or.inl ⟨h2, rfl⟩)
    exact ⟨fun _ => ⟨1, X', ts, by dsimp only; omega, p1, p2, fun _ _ => rfl⟩, fun q => by cases q⟩
  by_cases h1 : s.1.1 = 1 ∧ s.1.2.2 - s.1.2.1 = 1 ∧ 0 ≤ nmS K (b s.1.2.1)
  · have hd : dPc b n K fL fP op no s = ((nx b n s.1, (10000 + nmS K (b s.1.2.1)) :: s.2.1, s.2.2 + 1), true) := by unfold dPc; rw [if_neg h2, if_pos h1.1, if_pos h1.2]
    rw [hd]
    obtain ⟨g1, g2⟩ := nx_go hT (by omega)
    obtain ⟨X', p1, p2⟩ := st_part (lp := lp) (x := 10000 + nmS K (b s.1.2.1)) hK e15 hB hY (Or.inr ⟨h1.1, h1.2.1, h1.2.2, rfl⟩)
    exact ⟨fun _ => ⟨1, X', ts, by dsimp only; omega, p1, p2, fun _ _ => rfl⟩, fun q => by cases q⟩
  by_cases h33 : s.1.1 = 3 ∧ b s.1.2.1 = 33 ∧ no < 8
  · have hd : dPc b n K fL fP op no s = (if (fP op (no + 1) (nx b n s.1, s.2)).2 = true then (((fP op (no + 1) (nx b n s.1, s.2)).1.1, -10 :: (fP op (no + 1) (nx b n s.1, s.2)).1.2.1, (fP op (no + 1) (nx b n s.1, s.2)).1.2.2), true) else fP op (no + 1) (nx b n s.1, s.2)) := by
      unfold dPc; rw [if_neg h2, if_neg (by omega), if_pos h33]
    rw [hd]
    obtain ⟨g1, g2⟩ := nx_go hT (by omega)
    obtain ⟨X1, p1, p2⟩ := st_not (lp := lp) hB hY h33.1 h33.2.1 (by omega)
    obtain ⟨iOk, iFl⟩ := iP h33.2.2 (nx b n s.1, s.2) (-10 :: W) ts X1 p1 (by rw [op_c _ _ (by decide)]; exact hop) (by unfold noN at hno ⊢; rw [List.countP_cons, if_pos (by decide), hno])
    generalize fP op (no + 1) (nx b n s.1, s.2) = r at *
    cases hok : r.2 with
    | true =>
      rw [if_pos rfl]
      obtain ⟨k1, X2, t2, u1, u2, u3, u4⟩ := iOk hok
      dsimp only at u1
      have hst : stl 6 (-10 :: W) r.1.2.1 = stl 6 W (-10 :: r.1.2.1) := by
        rw [show stl 6 (-10 :: W) r.1.2.1 = (if (-10 : Int32) = -11 ∨ rk (-10) < 6 then (-10 :: W, r.1.2.1) else stl 6 W (-10 :: r.1.2.1)) from rfl, if_neg (by decide)]
      rw [hst] at u2 u3
      refine ⟨fun _ => ⟨k1 + 1, X2, t2, by dsimp only; omega, u2, fun fuel => ?_, u4⟩, fun q => by cases q⟩
      rw [← u3 fuel, ← p2 (fuel + k1)]
      congr 1
    | false =>
      rw [if_neg (by decide)]
      refine ⟨(fun q => by rw [hok] at q; cases q), fun _ => ?_⟩
      obtain ⟨k1, X2, u1, u2, u3⟩ := iFl hok
      dsimp only at u1
      refine ⟨k1 + 1, X2, by omega, u2, fun fuel => ?_⟩
      rw [← u3 fuel, ← p2 (fuel + k1 + 1)]
      congr 1
  by_cases h40 : s.1.1 = 3 ∧ b s.1.2.1 = 40 ∧ op < 8
  · have hd : dPc b n K fL fP op no s = (if (fL 0 (op + 1) no (nx b n s.1, s.2)).2 = true then (if (fL 0 (op + 1) no (nx b n s.1, s.2)).1.1.1 = 3 ∧ b (fL 0 (op + 1) no (nx b n s.1, s.2)).1.1.2.1 = 41 then ((nx b n (fL 0 (op + 1) no (nx b n s.1, s.2)).1.1, (fL 0 (op + 1) no (nx b n s.1, s.2)).1.2), true) else ((fL 0 (op + 1) no (nx b n s.1, s.2)).1, false)) else fL 0 (op + 1) no (nx b n s.1, s.2)) := by
      unfold dPc; rw [if_neg h2, if_neg (by omega), if_neg h33, if_pos h40]
    rw [hd]
    obtain ⟨g1, g2⟩ := nx_go hT (by omega)
    obtain ⟨X1, p1, p2⟩ := st_open (lp := lp) hB hY h40.1 h40.2.1 (by omega)
    obtain ⟨iOk, iFl⟩ := iL h40.2.2 (nx b n s.1, s.2) (-11 :: W) _ X1 p1 (by rw [op_o, hop]) (by rw [no_c _ _ (by decide)]; exact hno) (Or.inl rfl) (fun _ => by show (if op + 1 = opN W + 1 then false else ts (op + 1)) = false; rw [hop, if_pos rfl])
    generalize fL 0 (op + 1) no (nx b n s.1, s.2) = r at *
    cases hok : r.2 with
    | true =>
      rw [if_pos rfl]
      obtain ⟨k1, X2, W2, c2, t2, u1, u2, u3, u4, u5, u6, u7⟩ := iOk hok
      dsimp only at u1
      have hs0 : stl 0 W2 c2 = (-11 :: W, r.1.2.1) := by
        rw [← stl_comp (show 0 ≤ 0 + 1 by omega) W2 c2, u4]
        exact clo_stl (r := 0) (W := -11 :: W) (Or.inl rfl) _
      have hopW2 : opN W2 = op + 1 := by have := stl_op 0 W2 c2; rw [hs0] at this; dsimp only at this; rw [op_o] at this; omega
      have hT2 : TkOk b n r.1.1 := by obtain ⟨N, vl, ed, -, hT, -⟩ := u2; exact hT
      by_cases h41 : r.1.1.1 = 3 ∧ b r.1.1.2.1 = 41
      · rw [if_pos h41]
        obtain ⟨X3, v1, v2⟩ := st_close (lp := lp) hB u2 h41.1 h41.2 hs0
        obtain ⟨j1, j2⟩ := nx_go hT2 (by omega)
        refine ⟨fun _ => ⟨1 + (k1 + 1), X3, t2, by dsimp only; omega, v1, fun fuel => ?_, fun j hj => ?_⟩, fun q => by cases q⟩
        · rw [← v2 fuel, ← u3 (fuel + 1), ← p2 (fuel + 1 + k1)]
          congr 1
          omega
        · rw [u5 j (by omega)]
          dsimp only
          rw [if_neg (by omega)]
      · rw [if_neg h41]
        refine ⟨(fun q => by cases q), fun _ => ?_⟩
        by_cases hend : r.1.1.1 = 0
        · obtain ⟨N3, w1, w2, -⟩ := st_end (lp := lp) hB u2 hend
          rw [decide_eq_false (by omega)] at w1
          refine ⟨k1 + 1, N3, by dsimp only; omega, w2, fun fuel => ?_⟩
          rw [show some ((0 : Int32), hp lp N3) = some (bi false, hp lp N3) from rfl, ← w1 fuel, ← u3 (fuel + 1), ← p2 (fuel + 1 + k1)]
          congr 1
          omega
        · obtain ⟨w1, w2⟩ := fl_sign (lp := lp) hB u2 hend (fun q => h41 ⟨q.1, q.2.1⟩) (by
            by_cases q : sh b r.1.1 = 0
            · exact Or.inl q
            · refine Or.inr ?_
              rcases u7 q with z | z
              · have := (sh_c q).1; omega
              · rw [hopW2]; exact z)
          refine ⟨k1 + 1, X2, by dsimp only; omega, w1, fun fuel => ?_⟩
          rw [← w2 fuel, ← u3 (fuel + 1), ← p2 (fuel + 1 + k1)]
          congr 1
          omega
    | false =>
      rw [if_neg (by decide)]
      refine ⟨(fun q => by rw [hok] at q; cases q), fun _ => ?_⟩
      obtain ⟨k1, X2, u1, u2, u3⟩ := iFl hok
      dsimp only at u1
      refine ⟨k1 + 1, X2, by omega, u2, fun fuel => ?_⟩
      rw [← u3 fuel, ← p2 (fuel + k1 + 1)]
      congr 1
  · have hd : dPc b n K fL fP op no s = (s, false) := by
      unfold dPc
      rw [if_neg h2]
      by_cases q1 : s.1.1 = 1
      · rw [if_pos q1, if_neg (fun x => h1 ⟨q1, x⟩)]
      · rw [if_neg q1, if_neg h33, if_neg h40]
    rw [hd]
    obtain ⟨w1, w2⟩ := fl_want (lp := lp) hK e15 hB hY h2 h1 (fun q => h33 ⟨q.1, q.2.1, by omega⟩) (fun q => h40 ⟨q.1, q.2.1, by omega⟩)
    exact ⟨(fun q => by cases q), fun _ => ⟨0, X, by show 0 + s.1.2.1 ≤ s.1.2.1; omega, w1, fun fuel => w2 fuel⟩⟩
theorem thmB {lp n K : Nat} {b : Nat → Nat} {M : Mem} (hK : K < 3) (e15 : M 121 15 = nI K) (hB : TpR M b n) : ∀ f, (∀ l op no, l ≤ 5 → op ≤ 8 → no ≤ 8 → 6 - l + ndP op no ≤ f → LvB lp M b n ((dlp b n K f).1 l op no) l op no) ∧ (∀ op no, op ≤ 8 → no ≤ 8 → ndP op no ≤ f → PcB lp M b n ((dlp b n K f).2 op no) op no) := by
  intro f
  induction f with
  | zero =>
    refine ⟨fun l op no h1 h2 h3 h4 => ?_, fun op no h2 h3 h4 => ?_⟩
    · unfold ndP at h4; omega
    · unfold ndP at h4; omega
  | succ f ih =>
    obtain ⟨iL, iP⟩ := ih
    refine ⟨fun l op no h1 h2 h3 h4 => ?_, fun op no h2 h3 h4 => ?_⟩
    · intro s W ts X hY hop hno hcl hts
      show ((dLv b n (dlp b n K f).1 (dlp b n K f).2 l op no s).2 = true → OkL lp M b n l op W ts s.1.2.1 true W X (dLv b n (dlp b n K f).1 (dlp b n K f).2 l op no s)) ∧ ((dLv b n (dlp b n K f).1 (dlp b n K f).2 l op no s).2 = false → FlL lp M s.1.2.1 true W X (dLv b n (dlp b n K f).1 (dlp b n K f).2 l op no s))
      have hT : TkOk b n s.1 := by obtain ⟨N, vl, ed, -, hT, -⟩ := hY; exact hT
      by_cases hl : l < 5
      · have hIH := iL (l + 1) op no (by omega) h2 h3 (by omega)
        obtain ⟨iOk, iFl⟩ := hIH s W ts X hY hop hno (clo_le (by omega) hcl) (fun q => hts (by omega))
        unfold dLv
        rw [if_pos hl]
        generalize hr : (dlp b n K f).1 (l + 1) op no s = r at *
        cases hok : r.2 with
        | false =>
          rw [if_neg (by decide)]
          exact ⟨(fun q => by rw [hok] at q; cases q), fun _ => iFl hok⟩
        | true =>
          rw [if_pos rfl]
          obtain ⟨k1, X1, W1, c1, t1, u1, u2, u3, u4, u5, u6, u7⟩ := iOk hok
          have hs1 : stl (l + 1) W1 c1 = (W, r.1.2.1) := by
            rw [← stl_comp (show l + 1 ≤ l + 1 + 1 by omega) W1 c1, u4]
            exact clo_stl hcl _
          obtain ⟨jOk, jFl⟩ := lo_B (lp := lp) hB (show l ≤ 4 by omega) hop hno hcl hIH 96 r.1 X1 W1 c1 t1 (by omega) u2 hs1 u7 (fun q => by rw [u6 (by omega)]; exact hts (by omega))
          refine ⟨fun q => ?_, fun q => ?_⟩
          · obtain ⟨k2, X4, W4, c4, t4, v1, v2, v3, v4, v5, v6, v7⟩ := jOk q
            refine ⟨k2 + k1, X4, W4, c4, t4, by omega, v2, fun fuel => ?_, v4, fun j hj => by rw [v5 j hj, u5 j hj], fun q3 => by rw [v6 q3, u6 (by omega)], v7⟩
            rw [← v3 fuel, ← u3 (fuel + k2), Nat.add_assoc]
          · obtain ⟨k2, X4, v1, v2, v3⟩ := jFl q
            refine ⟨k2 + k1, X4, by omega, v2, fun fuel => ?_⟩
            rw [← v3 fuel, ← u3 (fuel + k2 + 1)]
            congr 1
            omega
      · obtain rfl : l = 5 := by omega
        obtain ⟨iOk, iFl⟩ := iP op no h2 h3 (by omega) s W ts X hY hop hno
        unfold dLv
        rw [if_neg hl]
        refine ⟨fun q => ?_, iFl⟩
        obtain ⟨k1, X1, t1, u1, u2, u3, u4⟩ := iOk q
        have hst := clo_stl (r := 6) hcl ((dlp b n K f).2 op no s).1.2.1
        rw [hst] at u2 u3
        exact ⟨k1, X1, W, _, t1, u1, u2, u3, hst, fun j hj => u4 j (by omega), fun _ => u4 op (Nat.le_refl _), fun hsh => Or.inl (sh_c hsh).2.1⟩
    · show PcB lp M b n (dPc b n K (dlp b n K f).1 (dlp b n K f).2 op no) op no
      exact pc_B hK e15 hB (fun h8 => iL 0 (op + 1) no (by omega) (by omega) h3 (by unfold ndP at h4 ⊢; omega)) (fun h8 => iP op (no + 1) h2 (by omega) (by unfold ndP at h4 ⊢; omega))
