/-! ===== the reference's steps ===== -/
def TF (b : Nat → Nat) (n : Nat) (T : Tk) (vl ed : Int32) : Prop := (T.1 = 1 ∨ T.1 = 3 → vl = nI (b T.2.1)) ∧ (T.1 = 2 → vl = nI (dv b T.2.1 (T.2.2 - T.2.1))) ∧ (T.1 = 1 ∨ T.1 = 2 → ed = nI T.2.2) ∧ (T.1 = 3 → ∀ m, T.2.1 < m → m ≤ n → nI m ≠ ed)
theorem go_T {lp n : Nat} {b : Nat → Nat} {N : Mem} {T : Tk} {vl ed cd am hd : Int32} (hB : TpR N b n) (hT : TkOk b n T) (h0 : T.1 = 1 ∨ T.1 = 2 ∨ T.1 = 3) (hF : TF b n T vl ed) : ∃ vl' ed', fxX10_go (some 121) (hp lp (GM N (nI T.2.2) (nI T.2.1) (nI T.1) vl ed cd am hd)) = some ((), hp lp (GM N (nI (nx b n T).2.2) (nI (nx b n T).2.1) (nI (nx b n T).1) vl' ed' cd am hd)) ∧ TF b n (nx b n T) vl' ed' := by
  have hn := hB.1
  obtain ⟨f1, f2, f3, f4⟩ := hF
  have hst : T.2.1 < T.2.2 := (hT.2.2.2.1 (by omega)).2
  have hen := hT.2.1
  have g1 : T.2.2 ≤ stT b n T.2.2 := st_ge
  have g2 : stT b n T.2.2 ≤ n := st_le hen
  obtain ⟨vl', ed', p1, p2, p3, p4, p5⟩ := q_go (lp := lp) (s0 := T.1) (a0 := T.2.1) (fr := nI T.2.1) (tk := nI T.1) (vl := vl) (ed := ed) (cd := cd) (am := am) (hd := hd) hB hen (by
    by_cases q : T.1 = 1 ∨ T.1 = 2
    · rw [f3 q]
      constructor
      · intro x; exact ⟨q, (nI_eq (by omega) (by omega)).mp x⟩
      · intro x; rw [x.2]
    · constructor
      · intro x; exact absurd x (f4 (by omega) _ (by omega) g2)
      · intro x; exact absurd x.1 q)
  refine ⟨vl', ed', p1, p2, p3, p4, fun h3 m hm1 hm2 => ?_⟩
  have hm1 : stT b n T.2.2 < m := hm1
  rw [p5 h3]
  by_cases q : T.1 = 1 ∨ T.1 = 2
  · rw [f3 q]
    intro x
    have := (nI_eq (by omega) (by omega)).mp x
    omega
  · exact f4 (by omega) m (by omega) hm2
def YM (M : Mem) (b : Nat → Nat) (n : Nat) (T : Tk) (wn : Bool) (W c : List Int32) (o : Nat) (ts : Nat → Bool) (X : Mem) : Prop := ∃ (N : Mem) (vl ed : Int32), X = GM N (nI T.2.2) (nI T.2.1) (nI T.1) vl ed (nI c.length) (nI o) (nI W.length) ∧ TkOk b n T ∧ TF b n T vl ed ∧ SR (N 132) c ∧ SR (N 133) W ∧ (∀ j, j ≤ opN W → N 134 j = bi (ts j)) ∧ c.length + W.length ≤ T.2.1 ∧ opN W ≤ 8 ∧ adj W ∧ (wn = false → hd1 W) ∧ (∀ x, x ∈ W → -11 ≤ x) ∧ (∀ z, z ≠ 132 → z ≠ 133 → z ≠ 134 → N z = M z)
def FR (M : Mem) (p : Nat) (X : Mem) : Prop := ∃ (N : Mem) (a tk vl ed cd am hd : Int32), X = GM N a (nI p) tk vl ed cd am hd ∧ ∀ z, z ≠ 132 → z ≠ 133 → z ≠ 134 → N z = M z
def rn (lp fuel : Nat) (wn : Bool) (W : List Int32) (X : Mem) : Option (Int32 × am_H) := fxX10_takesE_b28 fuel (some 121) (nI (opN W)) (nI (noN W)) (bi wn) (hp lp X)
theorem TpR_c {M N : Mem} {b : Nat → Nat} {n : Nat} (hB : TpR M b n) (h : ∀ z, z ≠ 132 → z ≠ 133 → z ≠ 134 → N z = M z) : TpR N b n := by
  obtain ⟨h1, h2, h3⟩ := hB
  refine ⟨h1, ?_, ?_⟩
  · rw [h 121 (by decide) (by decide) (by decide)]; exact h2
  · rw [h 129 (by decide) (by decide) (by decide)]; exact h3
theorem no_le (W : List Int32) : noN W ≤ W.length := List.countP_le_length
theorem no_c (x : Int32) (W : List Int32) (h : x ≠ -10) : noN (x :: W) = noN W := by
  unfold noN
  rw [List.countP_cons, if_neg (fun z => h (beq_iff_eq.mp z))]
  rfl
theorem op_c (x : Int32) (W : List Int32) (h : x ≠ -11) : opN (x :: W) = opN W := by
  unfold opN
  rw [List.countP_cons, if_neg (fun z => h (beq_iff_eq.mp z))]
  rfl
theorem op_o (W : List Int32) : opN (-11 :: W) = opN W + 1 := by
  unfold opN
  rw [List.countP_cons, if_pos (by decide)]
theorem g3 {T1 : Nat} (h : T1 = 3) : (nI T1 = (3 : Int32)) = True := by rw [h]; decide
theorem g3' {T1 : Nat} (h : T1 ≠ 3) (hl : T1 ≤ 4) : (nI T1 = (3 : Int32)) = False := eq_false (fun q => h ((nI_eq (b := 3) (by omega) (by decide)).mp q))
theorem st_not {lp n : Nat} {b : Nat → Nat} {M X : Mem} {T : Tk} {W c : List Int32} {o : Nat} {ts : Nat → Bool} (hB : TpR M b n) (h : YM M b n T true W c o ts X) (h3 : T.1 = 3) (hb : b T.2.1 = 33) (hno : noN W < 8) : ∃ X', YM M b n (nx b n T) true (-10 :: W) c o ts X' ∧ ∀ fuel, rn lp (fuel + 1) true W X = rn lp fuel true (-10 :: W) X' := by
  obtain ⟨N, vl, ed, rfl, hT, hF, s1, s2, s3, hl, hop, ha, -, hv, hz⟩ := h
  have hn := hB.1
  have hvl : vl = nI 33 := by rw [hF.1 (Or.inr h3), hb]
  obtain ⟨g1, g2⟩ := nx_go hT (by omega)
  have hst : T.2.1 < n := (hT.2.2.2.1 (by omega)).1
  generalize hN1 : am_up N 133 W.length (-10) = N1
  have r1 : ∀ z, z ≠ 133 → N1 z = N z := fun z hz => by rw [← hN1, am_up_ne hz]
  have s2' : SR (N1 133) (-10 :: W) := by rw [← hN1, up_row]; exact ⟨up1_eq _ _ _, SR_up (Nat.le_refl _) s2⟩
  obtain ⟨vl', ed', p1, p2⟩ := go_T (lp := lp) (N := N1) (vl := vl) (ed := ed) (cd := nI c.length) (am := nI o) (hd := nI (W.length + 1)) (TpR_c hB (fun z z1 z2 z3 => by rw [r1 z z2, hz z z1 z2 z3])) hT (Or.inr (Or.inr h3)) hF
  refine ⟨GM N1 (nI (nx b n T).2.2) (nI (nx b n T).2.1) (nI (nx b n T).1) vl' ed' (nI c.length) (nI o) (nI (W.length + 1)), ⟨N1, vl', ed', rfl, g1, p2, by rw [r1 132 (by decide)]; exact s1, s2', by rw [op_c _ _ (by decide), r1 134 (by decide)]; exact s3, by simp only [List.length_cons]; omega, by rw [op_c _ _ (by decide)]; exact hop, adj_c ha (Or.inr (Or.inl rfl)), (fun q => by cases q), (fun x hx => by rcases List.mem_cons.mp hx with q | q; rw [q]; decide; exact hv x q), fun z z1 z2 z3 => by rw [r1 z z2, hz z z1 z2 z3]⟩, fun fuel => ?_⟩
  have hnots := q_nots (lp := lp) (nx := nI (nx b n T).2.2) (fr := nI (nx b n T).2.1) (tk := nI (nx b n T).1) (vl := vl') (ed := ed') (am := nI o) (cd := nI c.length) (W := -10 :: W) (N := N1) (by simp only [List.length_cons]; omega) s2'
  rw [List.length_cons] at hnots
  have eu : ∀ hd, am_up (GM N (nI T.2.2) (nI T.2.1) (nI T.1) vl ed (nI c.length) (nI o) hd) 133 W.length (-10) = GM N1 (nI T.2.2) (nI T.2.1) (nI T.1) vl ed (nI c.length) (nI o) hd := fun hd => by rw [gm_ou (by decide), hN1]
  have h8 : ((8 : Int32) ≤ nI (noN W)) = False := zle (n := 8) hno (by decide)
  have h33 : (vl = (33 : Int32)) = True := by rw [hvl]; decide
  unfold rn
  rw [op_c _ _ (by decide)]
  simp (disch := omega) only [fxX10_takesE_b28, fxX10_takesE_b39, fxX10_takesE_b172, am_gd_t, am_lt_e, am_bd_s, bi_0, bi_bz, bz0, bz1, nz2, nz10, nz100, hp_gi, hp_si, ↓reduceIte, if_true, if_false, Bool.true_eq_false, Bool.false_eq_true, eq_self, reduceCtorEq, zo0, zp0_0, zp0_1, zp0_2, zp0_4, zp0_5, zp0_6, zp0_7, zp0_8, zp0_9, zp0_10, zo1, zp1_0, zp1_5, zp1_6, zp1_9, zo16, zp16_0, zp16_5, zp16_6, zp16_9, zo31, zp31_0, zp31_5, zp31_6, zp31_9, zo46, zp46_0, zp46_1, zp46_2, zo79, zp79_0, zo83, zp83_0, zp83_1, zp83_2, zo87, zp87_0, zp87_1, zo121, zp121_0, zp121_1, zp121_2, zp121_4, zp121_5, zp121_6, zp121_7, zp121_8, zp121_16, zp121_17, zp121_18, zp121_21, zp121_23, zp121_24, zp121_25, zp121_26, zp121_27, zp121_28, zp121_29, zp121_30, zp121_31, zp121_32, zp121_33, zp121_34, zp79_2, zx2, zx13, zx14, zx15, zx17, zx28, zx29, zx30, zx32, zx43, zx44, zx45, zx47, zx78, zx80, zx84, zx85, zx86, zx88, zx89, zx90, zx99, zx120, zx122, zx123, zx124, zx125, zx126, zx127, zx128, zx129, zx130, zx131, zx132, zx133, zx134, zx135, zx136, zx137, zx138, zx139, zx140, zx141, zx142, zx143, zx144, zx145, zg2, zg17, zg32, zgo3, zgo18, zgo33, zl47, zlo, zlp, zlx, zs90, zso, zsp, zsx, zt99, zto, ztp1, ztp2, ztgo, ztso, ztsp, ztsx, zc0, zi0, zc1, zi1, zc2, zi2, zc3, zi3, zc4, zi4, zc5, zi5, zin, zcl, nI_1, Bool.and_self, Bool.true_and, Bool.and_true, gm_12, gm_13, gm_22, gm_u22, g3 h3, h33, h8, eu, p1, hnots]
theorem st_open {lp n : Nat} {b : Nat → Nat} {M X : Mem} {T : Tk} {W c : List Int32} {o : Nat} {ts : Nat → Bool} (hB : TpR M b n) (h : YM M b n T true W c o ts X) (h3 : T.1 = 3) (hb : b T.2.1 = 40) (hop8 : opN W < 8) : ∃ X', YM M b n (nx b n T) true (-11 :: W) c o (fun j => if j = opN W + 1 then false else ts j) X' ∧ ∀ fuel, rn lp (fuel + 1) true W X = rn lp fuel true (-11 :: W) X' := by
  obtain ⟨N, vl, ed, rfl, hT, hF, s1, s2, s3, hl, hop, ha, -, hv, hz⟩ := h
  have hn := hB.1
  have hvl : vl = nI 40 := by rw [hF.1 (Or.inr h3), hb]
  obtain ⟨g1, g2⟩ := nx_go hT (by omega)
  have hst : T.2.1 < n := (hT.2.2.2.1 (by omega)).1
  generalize hN1 : am_up (am_up N 133 W.length (-11)) 134 (opN W + 1) 0 = N1
  have r1 : ∀ z, z ≠ 133 → z ≠ 134 → N1 z = N z := fun z z1 z2 => by rw [← hN1, am_up_ne z2, am_up_ne z1]
  have s2' : SR (N1 133) (-11 :: W) := by rw [← hN1, am_up_ne (by decide), up_row]; exact ⟨up1_eq _ _ _, SR_up (Nat.le_refl _) s2⟩
  have s3' : ∀ j, j ≤ opN W + 1 → N1 134 j = bi (if j = opN W + 1 then false else ts j) := fun j hj => by
    rw [← hN1, up_row, am_up_ne (by decide)]
    by_cases q : j = opN W + 1
    · rw [if_pos q, q, up1_eq]; rfl
    · rw [if_neg q, up1_ne q]; exact s3 j (by omega)
  obtain ⟨vl', ed', p1, p2⟩ := go_T (lp := lp) (N := N1) (vl := vl) (ed := ed) (cd := nI c.length) (am := nI o) (hd := nI (W.length + 1)) (TpR_c hB (fun z z1 z2 z3 => by rw [r1 z z2 z3, hz z z1 z2 z3])) hT (Or.inr (Or.inr h3)) hF
  refine ⟨GM N1 (nI (nx b n T).2.2) (nI (nx b n T).2.1) (nI (nx b n T).1) vl' ed' (nI c.length) (nI o) (nI (W.length + 1)), ⟨N1, vl', ed', rfl, g1, p2, by rw [r1 132 (by decide) (by decide)]; exact s1, s2', by rw [op_o]; exact s3', by simp only [List.length_cons]; omega, by rw [op_o]; omega, adj_c ha (Or.inr (Or.inr rfl)), (fun q => by cases q), (fun x hx => by rcases List.mem_cons.mp hx with q | q; rw [q]; decide; exact hv x q), fun z z1 z2 z3 => by rw [r1 z z2 z3, hz z z1 z2 z3]⟩, fun fuel => ?_⟩
  have hnots := q_nots (lp := lp) (nx := nI (nx b n T).2.2) (fr := nI (nx b n T).2.1) (tk := nI (nx b n T).1) (vl := vl') (ed := ed') (am := nI o) (cd := nI c.length) (W := -11 :: W) (N := N1) (by simp only [List.length_cons]; omega) s2'
  rw [List.length_cons] at hnots
  have eu : ∀ hd, am_up (GM N (nI T.2.2) (nI T.2.1) (nI T.1) vl ed (nI c.length) (nI o) hd) 133 W.length (-11) = GM (am_up N 133 W.length (-11)) (nI T.2.2) (nI T.2.1) (nI T.1) vl ed (nI c.length) (nI o) hd := fun hd => gm_ou (by decide)
  have eu2 : ∀ hd, am_up (GM (am_up N 133 W.length (-11)) (nI T.2.2) (nI T.2.1) (nI T.1) vl ed (nI c.length) (nI o) hd) 134 (opN W + 1) 0 = GM N1 (nI T.2.2) (nI T.2.1) (nI T.1) vl ed (nI c.length) (nI o) hd := fun hd => by rw [gm_ou (by decide), hN1]
  have h8 : ((8 : Int32) ≤ nI (opN W)) = False := zle (n := 8) hop8 (by decide)
  have h33 : (vl = (33 : Int32)) = False := by rw [hvl]; decide
  have h40 : (vl = (40 : Int32)) = True := by rw [hvl]; decide
  unfold rn
  rw [op_o]
  simp (disch := omega) only [fxX10_takesE_b28, fxX10_takesE_b39, fxX10_takesE_b97, fxX10_takesE_b172, am_gd_t, am_lt_e, am_bd_s, bi_0, bi_bz, bz0, bz1, nz2, nz10, nz100, hp_gi, hp_si, ↓reduceIte, if_true, if_false, Bool.true_eq_false, Bool.false_eq_true, eq_self, reduceCtorEq, zo0, zp0_0, zp0_1, zp0_2, zp0_4, zp0_5, zp0_6, zp0_7, zp0_8, zp0_9, zp0_10, zo1, zp1_0, zp1_5, zp1_6, zp1_9, zo16, zp16_0, zp16_5, zp16_6, zp16_9, zo31, zp31_0, zp31_5, zp31_6, zp31_9, zo46, zp46_0, zp46_1, zp46_2, zo79, zp79_0, zo83, zp83_0, zp83_1, zp83_2, zo87, zp87_0, zp87_1, zo121, zp121_0, zp121_1, zp121_2, zp121_4, zp121_5, zp121_6, zp121_7, zp121_8, zp121_16, zp121_17, zp121_18, zp121_21, zp121_23, zp121_24, zp121_25, zp121_26, zp121_27, zp121_28, zp121_29, zp121_30, zp121_31, zp121_32, zp121_33, zp121_34, zp79_2, zx2, zx13, zx14, zx15, zx17, zx28, zx29, zx30, zx32, zx43, zx44, zx45, zx47, zx78, zx80, zx84, zx85, zx86, zx88, zx89, zx90, zx99, zx120, zx122, zx123, zx124, zx125, zx126, zx127, zx128, zx129, zx130, zx131, zx132, zx133, zx134, zx135, zx136, zx137, zx138, zx139, zx140, zx141, zx142, zx143, zx144, zx145, zg2, zg17, zg32, zgo3, zgo18, zgo33, zl47, zlo, zlp, zlx, zs90, zso, zsp, zsx, zt99, zto, ztp1, ztp2, ztgo, ztso, ztsp, ztsx, zc0, zi0, zc1, zi1, zc2, zi2, zc3, zi3, zc4, zi4, zc5, zi5, zin, zcl, nI_1, Bool.and_self, Bool.true_and, Bool.and_true, gm_12, gm_13, gm_22, gm_u22, g3 h3, h33, h40, h8, eu, eu2, p1, hnots]
/-- a number or a name -/
theorem tp_ok {lp n K : Nat} {b : Nat → Nat} {M X : Mem} {T : Tk} {wn : Bool} {W c : List Int32} {o : Nat} {ts : Nat → Bool} {x : Int32} (hK : K < 3) (e15 : M 121 15 = nI K) (hB : TpR M b n) (h : YM M b n T wn W c o ts X) (hx : (T.1 = 2 ∧ x = nI (dv b T.2.1 (T.2.2 - T.2.1))) ∨ (T.1 = 1 ∧ T.2.2 - T.2.1 = 1 ∧ 0 ≤ nmS K (b T.2.1) ∧ x = 10000 + nmS K (b T.2.1))) : ∃ X', YM M b n (nx b n T) false (stl 6 W (x :: c)).1 (stl 6 W (x :: c)).2 (o + 1) ts X' ∧ fxX10_takesPart (some 121) (hp lp X) = some (1, hp lp X') := by
  obtain ⟨N, vl, ed, rfl, hT, hF, s1, s2, s3, hl, hop, ha, -, hv, hz⟩ := h
  have hn := hB.1
  have h0 : T.1 ≠ 0 := by omega
  obtain ⟨g1, g2⟩ := nx_go hT h0
  have hst : T.2.1 < n := (hT.2.2.2.1 h0).1
  have hst2 : T.2.1 < T.2.2 := (hT.2.2.2.1 h0).2
  have hen := hT.2.1
  generalize hN1 : am_up N 132 c.length x = N1
  have r1 : ∀ z, z ≠ 132 → N1 z = N z := fun z hz => by rw [← hN1, am_up_ne hz]
  have s1' : SR (N1 132) (x :: c) := by rw [← hN1, up_row]; exact ⟨up1_eq _ _ _, SR_up (Nat.le_refl _) s1⟩
  obtain ⟨N2, t1, t2, t3, t4⟩ := q_settle (lp := lp) (r := 6) (by omega) (nx := nI T.2.2) (fr := nI T.2.1) (tk := nI T.1) (vl := vl) (ed := ed) (am := nI (o + 1)) W (x :: c) am_F N1 (by unfold am_F; omega) (by simp only [List.length_cons]; omega) s1' (by rw [r1 133 (by decide)]; exact s2)
  have fr2 : ∀ z, z ≠ 132 → z ≠ 133 → z ≠ 134 → N2 z = M z := fun z z1 z2 z3 => by rw [t4 z z1, r1 z z1, hz z z1 z2 z3]
  obtain ⟨vl', ed', p1, p2⟩ := go_T (lp := lp) (N := N2) (vl := vl) (ed := ed) (cd := nI (stl 6 W (x :: c)).2.length) (am := nI (o + 1)) (hd := nI (stl 6 W (x :: c)).1.length) (TpR_c hB fr2) hT (by omega) hF
  have hlen := stl_len 6 W (x :: c)
  simp only [List.length_cons] at hlen
  refine ⟨_, ⟨N2, vl', ed', rfl, g1, p2, t2, t3, by rw [stl_op, t4 134 (by decide), r1 134 (by decide)]; exact s3, by omega, by rw [stl_op]; exact hop, stl_adj 6 W (x :: c) ha, fun _ => stl_6 W (x :: c) hv, fun y hy => hv y (stl_mem 6 W (x :: c) y hy), fr2⟩, ?_⟩
  have t1 : fxX10_settle (some 121) (6 : Int32) (hp lp (GM N1 (nI T.2.2) (nI T.2.1) (nI T.1) vl ed (nI (c.length + 1)) (nI (o + 1)) (nI W.length))) = some ((), hp lp (GM N2 (nI T.2.2) (nI T.2.1) (nI T.1) vl ed (nI (stl 6 W (x :: c)).2.length) (nI (o + 1)) (nI (stl 6 W (x :: c)).1.length))) := t1
  have eu : ∀ cd am, am_up (GM N (nI T.2.2) (nI T.2.1) (nI T.1) vl ed cd am (nI W.length)) 132 c.length x = GM N1 (nI T.2.2) (nI T.2.1) (nI T.1) vl ed cd am (nI W.length) := fun cd am => by rw [gm_ou (by decide), hN1]
  have tail : fxX10_takesPart_b87 (some 121) x (nI c.length) (some 132) (hp lp (GM N (nI T.2.2) (nI T.2.1) (nI T.1) vl ed (nI c.length) (nI o) (nI W.length))) = some (1, hp lp (GM N2 (nI (nx b n T).2.2) (nI (nx b n T).2.1) (nI (nx b n T).1) vl' ed' (nI (stl 6 W (x :: c)).2.length) (nI (o + 1)) (nI (stl 6 W (x :: c)).1.length))) := by
    simp (disch := omega) only [fxX10_takesPart_b87, am_gd_t, am_lt_e, am_bd_s, bi_0, bi_bz, bz0, bz1, nz2, nz10, nz100, hp_gi, hp_si, ↓reduceIte, if_true, if_false, Bool.true_eq_false, Bool.false_eq_true, eq_self, reduceCtorEq, zo0, zp0_0, zp0_1, zp0_2, zp0_4, zp0_5, zp0_6, zp0_7, zp0_8, zp0_9, zp0_10, zo1, zp1_0, zp1_5, zp1_6, zp1_9, zo16, zp16_0, zp16_5, zp16_6, zp16_9, zo31, zp31_0, zp31_5, zp31_6, zp31_9, zo46, zp46_0, zp46_1, zp46_2, zo79, zp79_0, zo83, zp83_0, zp83_1, zp83_2, zo87, zp87_0, zp87_1, zo121, zp121_0, zp121_1, zp121_2, zp121_4, zp121_5, zp121_6, zp121_7, zp121_8, zp121_16, zp121_17, zp121_18, zp121_21, zp121_23, zp121_24, zp121_25, zp121_26, zp121_27, zp121_28, zp121_29, zp121_30, zp121_31, zp121_32, zp121_33, zp121_34, zp79_2, zx2, zx13, zx14, zx15, zx17, zx28, zx29, zx30, zx32, zx43, zx44, zx45, zx47, zx78, zx80, zx84, zx85, zx86, zx88, zx89, zx90, zx99, zx120, zx122, zx123, zx124, zx125, zx126, zx127, zx128, zx129, zx130, zx131, zx132, zx133, zx134, zx135, zx136, zx137, zx138, zx139, zx140, zx141, zx142, zx143, zx144, zx145, zg2, zg17, zg32, zgo3, zgo18, zgo33, zl47, zlo, zlp, zlx, zs90, zso, zsp, zsx, zt99, zto, ztp1, ztp2, ztgo, ztso, ztsp, ztsx, zc0, zi0, zc1, zi1, zc2, zi2, zc3, zi3, zc4, zi4, zc5, zi5, zin, zcl, nI_1, Bool.and_self, Bool.true_and, Bool.and_true, eu, gm_19, gm_20, gm_u19, gm_u20, t1, p1]
  rcases hx with ⟨hx1, hx2⟩ | ⟨hx1, hx2, hx3, hx4⟩
  · have hvl := hF.2.1 hx1
    rw [← hx2] at hvl
    subst hvl
    rw [← tail]
    have d1 : (nI T.1 = (1 : Int32)) = False := by rw [hx1]; decide
    have d2 : (nI T.1 = (2 : Int32)) = True := by rw [hx1]; decide
    simp only [fxX10_takesPart, fxX10_takesPart_b36, fxX10_takesPart_b37, fxX10_takesPart_b52, am_gd_t, am_lt_e, am_bd_s, bi_0, bi_bz, bz0, bz1, nz2, nz10, nz100, hp_gi, hp_si, ↓reduceIte, if_true, if_false, Bool.true_eq_false, Bool.false_eq_true, eq_self, reduceCtorEq, zo0, zp0_0, zp0_1, zp0_2, zp0_4, zp0_5, zp0_6, zp0_7, zp0_8, zp0_9, zp0_10, zo1, zp1_0, zp1_5, zp1_6, zp1_9, zo16, zp16_0, zp16_5, zp16_6, zp16_9, zo31, zp31_0, zp31_5, zp31_6, zp31_9, zo46, zp46_0, zp46_1, zp46_2, zo79, zp79_0, zo83, zp83_0, zp83_1, zp83_2, zo87, zp87_0, zp87_1, zo121, zp121_0, zp121_1, zp121_2, zp121_4, zp121_5, zp121_6, zp121_7, zp121_8, zp121_16, zp121_17, zp121_18, zp121_21, zp121_23, zp121_24, zp121_25, zp121_26, zp121_27, zp121_28, zp121_29, zp121_30, zp121_31, zp121_32, zp121_33, zp121_34, zp79_2, zx2, zx13, zx14, zx15, zx17, zx28, zx29, zx30, zx32, zx43, zx44, zx45, zx47, zx78, zx80, zx84, zx85, zx86, zx88, zx89, zx90, zx99, zx120, zx122, zx123, zx124, zx125, zx126, zx127, zx128, zx129, zx130, zx131, zx132, zx133, zx134, zx135, zx136, zx137, zx138, zx139, zx140, zx141, zx142, zx143, zx144, zx145, zg2, zg17, zg32, zgo3, zgo18, zgo33, zl47, zlo, zlp, zlx, zs90, zso, zsp, zsx, zt99, zto, ztp1, ztp2, ztgo, ztso, ztsp, ztsx, zc0, zi0, zc1, zi1, zc2, zi2, zc3, zi3, zc4, zi4, zc5, zi5, gm_12, gm_13, gm_19, d1, d2]
  · have hvl := hF.1 (Or.inl hx1)
    have hb := (hB.2.2 _ hst).2
    have hnm := q_nameOf (lp := lp) (N := N) (v := b T.2.1) (nx := nI T.2.2) (fr := nI T.2.1) (tk := nI T.1) (vl := vl) (ed := ed) (cd := nI c.length) (am := nI o) (hd := nI W.length) hK hb (by rw [hz 121 (by decide) (by decide) (by decide)]; exact e15)
    rw [← hvl] at hnm
    have d1 : (nI T.1 = (1 : Int32)) = True := by rw [hx1]; decide
    have d2 : (nI T.1 = (2 : Int32)) = False := by rw [hx1]; decide
    have d3 : (nI T.2.2 - nI T.2.1 = (1 : Int32)) = True := by rw [pk_sub (by omega), hx2]; decide
    have d4 : (nmS K (b T.2.1) < 0) = False := eq_false (Int32.not_lt.mpr hx3)
    rw [← tail, hx4]
    simp only [fxX10_takesPart, fxX10_takesPart_b36, fxX10_takesPart_b37, fxX10_takesPart_b52, am_gd_t, am_lt_e, am_bd_s, bi_0, bi_bz, bz0, bz1, nz2, nz10, nz100, hp_gi, hp_si, ↓reduceIte, if_true, if_false, Bool.true_eq_false, Bool.false_eq_true, eq_self, reduceCtorEq, zo0, zp0_0, zp0_1, zp0_2, zp0_4, zp0_5, zp0_6, zp0_7, zp0_8, zp0_9, zp0_10, zo1, zp1_0, zp1_5, zp1_6, zp1_9, zo16, zp16_0, zp16_5, zp16_6, zp16_9, zo31, zp31_0, zp31_5, zp31_6, zp31_9, zo46, zp46_0, zp46_1, zp46_2, zo79, zp79_0, zo83, zp83_0, zp83_1, zp83_2, zo87, zp87_0, zp87_1, zo121, zp121_0, zp121_1, zp121_2, zp121_4, zp121_5, zp121_6, zp121_7, zp121_8, zp121_16, zp121_17, zp121_18, zp121_21, zp121_23, zp121_24, zp121_25, zp121_26, zp121_27, zp121_28, zp121_29, zp121_30, zp121_31, zp121_32, zp121_33, zp121_34, zp79_2, zx2, zx13, zx14, zx15, zx17, zx28, zx29, zx30, zx32, zx43, zx44, zx45, zx47, zx78, zx80, zx84, zx85, zx86, zx88, zx89, zx90, zx99, zx120, zx122, zx123, zx124, zx125, zx126, zx127, zx128, zx129, zx130, zx131, zx132, zx133, zx134, zx135, zx136, zx137, zx138, zx139, zx140, zx141, zx142, zx143, zx144, zx145, zg2, zg17, zg32, zgo3, zgo18, zgo33, zl47, zlo, zlp, zlx, zs90, zso, zsp, zsx, zt99, zto, ztp1, ztp2, ztgo, ztso, ztsp, ztsx, zc0, zi0, zc1, zi1, zc2, zi2, zc3, zi3, zc4, zi4, zc5, zi5, gm_10, gm_11, gm_12, gm_13, gm_19, d1, d2, d3, d4, hnm, one0]
theorem tp_no {lp n K : Nat} {b : Nat → Nat} {M X : Mem} {T : Tk} {wn : Bool} {W c : List Int32} {o : Nat} {ts : Nat → Bool} (hK : K < 3) (e15 : M 121 15 = nI K) (hB : TpR M b n) (h : YM M b n T wn W c o ts X) (h2 : T.1 ≠ 2) (h1 : ¬ (T.1 = 1 ∧ T.2.2 - T.2.1 = 1 ∧ 0 ≤ nmS K (b T.2.1))) : fxX10_takesPart (some 121) (hp lp X) = some (0, hp lp X) := by
  obtain ⟨N, vl, ed, rfl, hT, hF, s1, s2, s3, hl, hop, ha, -, hv, hz⟩ := h
  have hn := hB.1
  have hT4 := hT.2.2.2.2.1
  have d2 : (nI T.1 = (2 : Int32)) = False := eq_false (fun q => h2 ((nI_eq (b := 2) (by omega) (by decide)).mp q))
  by_cases q1 : T.1 = 1
  · have d1 : (nI T.1 = (1 : Int32)) = True := by rw [q1]; decide
    have hst : T.2.1 < n := (hT.2.2.2.1 (by omega)).1
    have hen := hT.2.1
    have hse := hT.1
    have c3 : (nI T.2.2 - nI T.2.1 = (1 : Int32)) = (T.2.2 - T.2.1 = 1) := by
      rw [pk_sub (by omega)]; exact propext (nI_eq (b := 1) (by omega) (by decide))
    by_cases q2 : T.2.2 - T.2.1 = 1
    · have d3 := c3.trans (eq_true q2)
      have hvl := hF.1 (Or.inl q1)
      have hb := (hB.2.2 _ hst).2
      have hnm := q_nameOf (lp := lp) (N := N) (v := b T.2.1) (nx := nI T.2.2) (fr := nI T.2.1) (tk := nI T.1) (vl := vl) (ed := ed) (cd := nI c.length) (am := nI o) (hd := nI W.length) hK hb (by rw [hz 121 (by decide) (by decide) (by decide)]; exact e15)
      rw [← hvl] at hnm
      have d4 : (nmS K (b T.2.1) < 0) = True := eq_true (Int32.not_le.mp (fun q => h1 ⟨q1, q2, q⟩))
      simp only [fxX10_takesPart, fxX10_takesPart_b36, fxX10_takesPart_b37, am_gd_t, am_lt_e, am_bd_s, bi_0, bi_bz, bz0, bz1, nz2, nz10, nz100, hp_gi, hp_si, ↓reduceIte, if_true, if_false, Bool.true_eq_false, Bool.false_eq_true, eq_self, reduceCtorEq, zo0, zp0_0, zp0_1, zp0_2, zp0_4, zp0_5, zp0_6, zp0_7, zp0_8, zp0_9, zp0_10, zo1, zp1_0, zp1_5, zp1_6, zp1_9, zo16, zp16_0, zp16_5, zp16_6, zp16_9, zo31, zp31_0, zp31_5, zp31_6, zp31_9, zo46, zp46_0, zp46_1, zp46_2, zo79, zp79_0, zo83, zp83_0, zp83_1, zp83_2, zo87, zp87_0, zp87_1, zo121, zp121_0, zp121_1, zp121_2, zp121_4, zp121_5, zp121_6, zp121_7, zp121_8, zp121_16, zp121_17, zp121_18, zp121_21, zp121_23, zp121_24, zp121_25, zp121_26, zp121_27, zp121_28, zp121_29, zp121_30, zp121_31, zp121_32, zp121_33, zp121_34, zp79_2, zx2, zx13, zx14, zx15, zx17, zx28, zx29, zx30, zx32, zx43, zx44, zx45, zx47, zx78, zx80, zx84, zx85, zx86, zx88, zx89, zx90, zx99, zx120, zx122, zx123, zx124, zx125, zx126, zx127, zx128, zx129, zx130, zx131, zx132, zx133, zx134, zx135, zx136, zx137, zx138, zx139, zx140, zx141, zx142, zx143, zx144, zx145, zg2, zg17, zg32, zgo3, zgo18, zgo33, zl47, zlo, zlp, zlx, zs90, zso, zsp, zsx, zt99, zto, ztp1, ztp2, ztgo, ztso, ztsp, ztsx, zc0, zi0, zc1, zi1, zc2, zi2, zc3, zi3, zc4, zi4, zc5, zi5, gm_10, gm_11, gm_12, gm_13, d1, d2, d3, d4, hnm]
    · have d3 := c3.trans (eq_false q2)
      simp only [fxX10_takesPart, fxX10_takesPart_b36, fxX10_takesPart_b37, am_gd_t, am_lt_e, am_bd_s, bi_0, bi_bz, bz0, bz1, nz2, nz10, nz100, hp_gi, hp_si, ↓reduceIte, if_true, if_false, Bool.true_eq_false, Bool.false_eq_true, eq_self, reduceCtorEq, zo0, zp0_0, zp0_1, zp0_2, zp0_4, zp0_5, zp0_6, zp0_7, zp0_8, zp0_9, zp0_10, zo1, zp1_0, zp1_5, zp1_6, zp1_9, zo16, zp16_0, zp16_5, zp16_6, zp16_9, zo31, zp31_0, zp31_5, zp31_6, zp31_9, zo46, zp46_0, zp46_1, zp46_2, zo79, zp79_0, zo83, zp83_0, zp83_1, zp83_2, zo87, zp87_0, zp87_1, zo121, zp121_0, zp121_1, zp121_2, zp121_4, zp121_5, zp121_6, zp121_7, zp121_8, zp121_16, zp121_17, zp121_18, zp121_21, zp121_23, zp121_24, zp121_25, zp121_26, zp121_27, zp121_28, zp121_29, zp121_30, zp121_31, zp121_32, zp121_33, zp121_34, zp79_2, zx2, zx13, zx14, zx15, zx17, zx28, zx29, zx30, zx32, zx43, zx44, zx45, zx47, zx78, zx80, zx84, zx85, zx86, zx88, zx89, zx90, zx99, zx120, zx122, zx123, zx124, zx125, zx126, zx127, zx128, zx129, zx130, zx131, zx132, zx133, zx134, zx135, zx136, zx137, zx138, zx139, zx140, zx141, zx142, zx143, zx144, zx145, zg2, zg17, zg32, zgo3, zgo18, zgo33, zl47, zlo, zlp, zlx, zs90, zso, zsp, zsx, zt99, zto, ztp1, ztp2, ztgo, ztso, ztsp, ztsx, zc0, zi0, zc1, zi1, zc2, zi2, zc3, zi3, zc4, zi4, zc5, zi5, gm_10, gm_11, gm_12, d1, d2, d3]
  · have d1 : (nI T.1 = (1 : Int32)) = False := eq_false (fun q => q1 ((nI_eq (b := 1) (by omega) (by decide)).mp q))
    simp only [fxX10_takesPart, fxX10_takesPart_b36, fxX10_takesPart_b37, am_gd_t, am_lt_e, am_bd_s, bi_0, bi_bz, bz0, bz1, nz2, nz10, nz100, hp_gi, hp_si, ↓reduceIte, if_true, if_false, Bool.true_eq_false, Bool.false_eq_true, eq_self, reduceCtorEq, zo0, zp0_0, zp0_1, zp0_2, zp0_4, zp0_5, zp0_6, zp0_7, zp0_8, zp0_9, zp0_10, zo1, zp1_0, zp1_5, zp1_6, zp1_9, zo16, zp16_0, zp16_5, zp16_6, zp16_9, zo31, zp31_0, zp31_5, zp31_6, zp31_9, zo46, zp46_0, zp46_1, zp46_2, zo79, zp79_0, zo83, zp83_0, zp83_1, zp83_2, zo87, zp87_0, zp87_1, zo121, zp121_0, zp121_1, zp121_2, zp121_4, zp121_5, zp121_6, zp121_7, zp121_8, zp121_16, zp121_17, zp121_18, zp121_21, zp121_23, zp121_24, zp121_25, zp121_26, zp121_27, zp121_28, zp121_29, zp121_30, zp121_31, zp121_32, zp121_33, zp121_34, zp79_2, zx2, zx13, zx14, zx15, zx17, zx28, zx29, zx30, zx32, zx43, zx44, zx45, zx47, zx78, zx80, zx84, zx85, zx86, zx88, zx89, zx90, zx99, zx120, zx122, zx123, zx124, zx125, zx126, zx127, zx128, zx129, zx130, zx131, zx132, zx133, zx134, zx135, zx136, zx137, zx138, zx139, zx140, zx141, zx142, zx143, zx144, zx145, zg2, zg17, zg32, zgo3, zgo18, zgo33, zl47, zlo, zlp, zlx, zs90, zso, zsp, zsx, zt99, zto, ztp1, ztp2, ztgo, ztso, ztsp, ztsx, zc0, zi0, zc1, zi1, zc2, zi2, zc3, zi3, zc4, zi4, zc5, zi5, gm_12, d1, d2]
/-- wanting a piece that is neither NOT nor a bracket -/
theorem to158 {lp n : Nat} {b : Nat → Nat} {M X : Mem} {T : Tk} {W c : List Int32} {o : Nat} {ts : Nat → Bool} (h : YM M b n T true W c o ts X) (h33 : ¬ (T.1 = 3 ∧ b T.2.1 = 33 ∧ noN W < 8)) (h40 : ¬ (T.1 = 3 ∧ b T.2.1 = 40 ∧ opN W < 8)) (hB : TpR M b n) (fuel : Nat) : rn lp (fuel + 1) true W X = fxX10_takesE_b158 (fxX10_takesE_b28 fuel) (some 121) (nI (opN W)) (hp lp X) := by
  obtain ⟨N, vl, ed, rfl, hT, hF, s1, s2, s3, hl, hop, ha, -, hv, hz⟩ := h
  have hn := hB.1
  have hT4 := hT.2.2.2.2.1
  unfold rn
  by_cases q3 : T.1 = 3
  · have hst : T.2.1 < n := (hT.2.2.2.1 (by omega)).1
    have hvl := hF.1 (Or.inr q3)
    have hb := (hB.2.2 _ hst).2
    have hno := no_le W
    have c33 : (vl = (33 : Int32)) = (b T.2.1 = 33) := by rw [hvl]; exact propext (nI_eq (b := 33) (by omega) (by decide))
    have c40 : (vl = (40 : Int32)) = (b T.2.1 = 40) := by rw [hvl]; exact propext (nI_eq (b := 40) (by omega) (by decide))
    have to97 : ∀ l2, l2 = nI (noN W) → fxX10_takesE_b28 (fuel + 1) (some 121) (nI (opN W)) l2 (bi true) (hp lp (GM N (nI T.2.2) (nI T.2.1) (nI T.1) vl ed (nI c.length) (nI o) (nI W.length))) = fxX10_takesE_b97 (fxX10_takesE_b28 fuel) (some 121) (nI (opN W)) (bi true) (hp lp (GM N (nI T.2.2) (nI T.2.1) (nI T.1) vl ed (nI c.length) (nI o) (nI W.length))) := by
      intro l2 hl2
      subst hl2
      by_cases q : b T.2.1 = 33
      · have d := c33.trans (eq_true q)
        have h8 : ((8 : Int32) ≤ nI (noN W)) = True := zle' (n := 8) (by omega) (by omega)
        simp only [fxX10_takesE_b28, fxX10_takesE_b39, am_gd_t, am_lt_e, am_bd_s, bi_0, bi_bz, bz0, bz1, nz2, nz10, nz100, hp_gi, hp_si, ↓reduceIte, if_true, if_false, Bool.true_eq_false, Bool.false_eq_true, eq_self, reduceCtorEq, zo0, zp0_0, zp0_1, zp0_2, zp0_4, zp0_5, zp0_6, zp0_7, zp0_8, zp0_9, zp0_10, zo1, zp1_0, zp1_5, zp1_6, zp1_9, zo16, zp16_0, zp16_5, zp16_6, zp16_9, zo31, zp31_0, zp31_5, zp31_6, zp31_9, zo46, zp46_0, zp46_1, zp46_2, zo79, zp79_0, zo83, zp83_0, zp83_1, zp83_2, zo87, zp87_0, zp87_1, zo121, zp121_0, zp121_1, zp121_2, zp121_4, zp121_5, zp121_6, zp121_7, zp121_8, zp121_16, zp121_17, zp121_18, zp121_21, zp121_23, zp121_24, zp121_25, zp121_26, zp121_27, zp121_28, zp121_29, zp121_30, zp121_31, zp121_32, zp121_33, zp121_34, zp79_2, zx2, zx13, zx14, zx15, zx17, zx28, zx29, zx30, zx32, zx43, zx44, zx45, zx47, zx78, zx80, zx84, zx85, zx86, zx88, zx89, zx90, zx99, zx120, zx122, zx123, zx124, zx125, zx126, zx127, zx128, zx129, zx130, zx131, zx132, zx133, zx134, zx135, zx136, zx137, zx138, zx139, zx140, zx141, zx142, zx143, zx144, zx145, zg2, zg17, zg32, zgo3, zgo18, zgo33, zl47, zlo, zlp, zlx, zs90, zso, zsp, zsx, zt99, zto, ztp1, ztp2, ztgo, ztso, ztsp, ztsx, zc0, zi0, zc1, zi1, zc2, zi2, zc3, zi3, zc4, zi4, zc5, zi5, gm_12, gm_13, g3 q3, d, h8]
      · have d := c33.trans (eq_false q)
        simp only [fxX10_takesE_b28, fxX10_takesE_b39, am_gd_t, am_lt_e, am_bd_s, bi_0, bi_bz, bz0, bz1, nz2, nz10, nz100, hp_gi, hp_si, ↓reduceIte, if_true, if_false, Bool.true_eq_false, Bool.false_eq_true, eq_self, reduceCtorEq, zo0, zp0_0, zp0_1, zp0_2, zp0_4, zp0_5, zp0_6, zp0_7, zp0_8, zp0_9, zp0_10, zo1, zp1_0, zp1_5, zp1_6, zp1_9, zo16, zp16_0, zp16_5, zp16_6, zp16_9, zo31, zp31_0, zp31_5, zp31_6, zp31_9, zo46, zp46_0, zp46_1, zp46_2, zo79, zp79_0, zo83, zp83_0, zp83_1, zp83_2, zo87, zp87_0, zp87_1, zo121, zp121_0, zp121_1, zp121_2, zp121_4, zp121_5, zp121_6, zp121_7, zp121_8, zp121_16, zp121_17, zp121_18, zp121_21, zp121_23, zp121_24, zp121_25, zp121_26, zp121_27, zp121_28, zp121_29, zp121_30, zp121_31, zp121_32, zp121_33, zp121_34, zp79_2, zx2, zx13, zx14, zx15, zx17, zx28, zx29, zx30, zx32, zx43, zx44, zx45, zx47, zx78, zx80, zx84, zx85, zx86, zx88, zx89, zx90, zx99, zx120, zx122, zx123, zx124, zx125, zx126, zx127, zx128, zx129, zx130, zx131, zx132, zx133, zx134, zx135, zx136, zx137, zx138, zx139, zx140, zx141, zx142, zx143, zx144, zx145, zg2, zg17, zg32, zgo3, zgo18, zgo33, zl47, zlo, zlp, zlx, zs90, zso, zsp, zsx, zt99, zto, ztp1, ztp2, ztgo, ztso, ztsp, ztsx, zc0, zi0, zc1, zi1, zc2, zi2, zc3, zi3, zc4, zi4, zc5, zi5, gm_12, gm_13, g3 q3, d]
    rw [to97 _ rfl]
    by_cases q : b T.2.1 = 40
    · have d := c40.trans (eq_true q)
      have h8 : ((8 : Int32) ≤ nI (opN W)) = True := zle' (n := 8) (by omega) (by omega)
      simp only [fxX10_takesE_b97, am_gd_t, am_lt_e, am_bd_s, bi_0, bi_bz, bz0, bz1, nz2, nz10, nz100, hp_gi, hp_si, ↓reduceIte, if_true, if_false, Bool.true_eq_false, Bool.false_eq_true, eq_self, reduceCtorEq, zo0, zp0_0, zp0_1, zp0_2, zp0_4, zp0_5, zp0_6, zp0_7, zp0_8, zp0_9, zp0_10, zo1, zp1_0, zp1_5, zp1_6, zp1_9, zo16, zp16_0, zp16_5, zp16_6, zp16_9, zo31, zp31_0, zp31_5, zp31_6, zp31_9, zo46, zp46_0, zp46_1, zp46_2, zo79, zp79_0, zo83, zp83_0, zp83_1, zp83_2, zo87, zp87_0, zp87_1, zo121, zp121_0, zp121_1, zp121_2, zp121_4, zp121_5, zp121_6, zp121_7, zp121_8, zp121_16, zp121_17, zp121_18, zp121_21, zp121_23, zp121_24, zp121_25, zp121_26, zp121_27, zp121_28, zp121_29, zp121_30, zp121_31, zp121_32, zp121_33, zp121_34, zp79_2, zx2, zx13, zx14, zx15, zx17, zx28, zx29, zx30, zx32, zx43, zx44, zx45, zx47, zx78, zx80, zx84, zx85, zx86, zx88, zx89, zx90, zx99, zx120, zx122, zx123, zx124, zx125, zx126, zx127, zx128, zx129, zx130, zx131, zx132, zx133, zx134, zx135, zx136, zx137, zx138, zx139, zx140, zx141, zx142, zx143, zx144, zx145, zg2, zg17, zg32, zgo3, zgo18, zgo33, zl47, zlo, zlp, zlx, zs90, zso, zsp, zsx, zt99, zto, ztp1, ztp2, ztgo, ztso, ztsp, ztsx, zc0, zi0, zc1, zi1, zc2, zi2, zc3, zi3, zc4, zi4, zc5, zi5, gm_12, gm_13, g3 q3, d, h8]
    · have d := c40.trans (eq_false q)
      simp only [fxX10_takesE_b97, am_gd_t, am_lt_e, am_bd_s, bi_0, bi_bz, bz0, bz1, nz2, nz10, nz100, hp_gi, hp_si, ↓reduceIte, if_true, if_false, Bool.true_eq_false, Bool.false_eq_true, eq_self, reduceCtorEq, zo0, zp0_0, zp0_1, zp0_2, zp0_4, zp0_5, zp0_6, zp0_7, zp0_8, zp0_9, zp0_10, zo1, zp1_0, zp1_5, zp1_6, zp1_9, zo16, zp16_0, zp16_5, zp16_6, zp16_9, zo31, zp31_0, zp31_5, zp31_6, zp31_9, zo46, zp46_0, zp46_1, zp46_2, zo79, zp79_0, zo83, zp83_0, zp83_1, zp83_2, zo87, zp87_0, zp87_1, zo121, zp121_0, zp121_1, zp121_2, zp121_4, zp121_5, zp121_6, zp121_7, zp121_8, zp121_16, zp121_17, zp121_18, zp121_21, zp121_23, zp121_24, zp121_25, zp121_26, zp121_27, zp121_28, zp121_29, zp121_30, zp121_31, zp121_32, zp121_33, zp121_34, zp79_2, zx2, zx13, zx14, zx15, zx17, zx28, zx29, zx30, zx32, zx43, zx44, zx45, zx47, zx78, zx80, zx84, zx85, zx86, zx88, zx89, zx90, zx99, zx120, zx122, zx123, zx124, zx125, zx126, zx127, zx128, zx129, zx130, zx131, zx132, zx133, zx134, zx135, zx136, zx137, zx138, zx139, zx140, zx141, zx142, zx143, zx144, zx145, zg2, zg17, zg32, zgo3, zgo18, zgo33, zl47, zlo, zlp, zlx, zs90, zso, zsp, zsx, zt99, zto, ztp1, ztp2, ztgo, ztso, ztsp, ztsx, zc0, zi0, zc1, zi1, zc2, zi2, zc3, zi3, zc4, zi4, zc5, zi5, gm_12, gm_13, g3 q3, d]
  · simp only [fxX10_takesE_b28, fxX10_takesE_b39, fxX10_takesE_b97, am_gd_t, am_lt_e, am_bd_s, bi_0, bi_bz, bz0, bz1, nz2, nz10, nz100, hp_gi, hp_si, ↓reduceIte, if_true, if_false, Bool.true_eq_false, Bool.false_eq_true, eq_self, reduceCtorEq, zo0, zp0_0, zp0_1, zp0_2, zp0_4, zp0_5, zp0_6, zp0_7, zp0_8, zp0_9, zp0_10, zo1, zp1_0, zp1_5, zp1_6, zp1_9, zo16, zp16_0, zp16_5, zp16_6, zp16_9, zo31, zp31_0, zp31_5, zp31_6, zp31_9, zo46, zp46_0, zp46_1, zp46_2, zo79, zp79_0, zo83, zp83_0, zp83_1, zp83_2, zo87, zp87_0, zp87_1, zo121, zp121_0, zp121_1, zp121_2, zp121_4, zp121_5, zp121_6, zp121_7, zp121_8, zp121_16, zp121_17, zp121_18, zp121_21, zp121_23, zp121_24, zp121_25, zp121_26, zp121_27, zp121_28, zp121_29, zp121_30, zp121_31, zp121_32, zp121_33, zp121_34, zp79_2, zx2, zx13, zx14, zx15, zx17, zx28, zx29, zx30, zx32, zx43, zx44, zx45, zx47, zx78, zx80, zx84, zx85, zx86, zx88, zx89, zx90, zx99, zx120, zx122, zx123, zx124, zx125, zx126, zx127, zx128, zx129, zx130, zx131, zx132, zx133, zx134, zx135, zx136, zx137, zx138, zx139, zx140, zx141, zx142, zx143, zx144, zx145, zg2, zg17, zg32, zgo3, zgo18, zgo33, zl47, zlo, zlp, zlx, zs90, zso, zsp, zsx, zt99, zto, ztp1, ztp2, ztgo, ztso, ztsp, ztsx, zc0, zi0, zc1, zi1, zc2, zi2, zc3, zi3, zc4, zi4, zc5, zi5, gm_12, g3' q3 hT4]
theorem st_part {lp n K : Nat} {b : Nat → Nat} {M X : Mem} {T : Tk} {W c : List Int32} {o : Nat} {ts : Nat → Bool} {x : Int32} (hK : K < 3) (e15 : M 121 15 = nI K) (hB : TpR M b n) (h : YM M b n T true W c o ts X) (hx : (T.1 = 2 ∧ x = nI (dv b T.2.1 (T.2.2 - T.2.1))) ∨ (T.1 = 1 ∧ T.2.2 - T.2.1 = 1 ∧ 0 ≤ nmS K (b T.2.1) ∧ x = 10000 + nmS K (b T.2.1))) : ∃ X', YM M b n (nx b n T) false (stl 6 W (x :: c)).1 (stl 6 W (x :: c)).2 (o + 1) ts X' ∧ ∀ fuel, rn lp (fuel + 1) true W X = rn lp fuel false (stl 6 W (x :: c)).1 X' := by
  obtain ⟨X', p1, p2⟩ := tp_ok (lp := lp) hK e15 hB h hx
  refine ⟨X', p1, fun fuel => ?_⟩
  rw [to158 h (by omega) (by omega) hB fuel]
  obtain ⟨N, vl, ed, hX', hT, hF, s1, s2, s3, hl, -⟩ := p1
  have hn := hB.1
  have hnots := q_nots (lp := lp) (nx := nI (nx b n T).2.2) (fr := nI (nx b n T).2.1) (tk := nI (nx b n T).1) (vl := vl) (ed := ed) (am := nI (o + 1)) (cd := nI (stl 6 W (x :: c)).2.length) (W := (stl 6 W (x :: c)).1) (N := N) (by have := hT.1; have := hT.2.1; omega) s2
  rw [← hX'] at hnots
  unfold rn
  rw [stl_op]
  simp only [fxX10_takesE_b158, fxX10_takesE_b172, am_gd_t, am_lt_e, am_bd_s, bi_0, bi_bz, bz0, bz1, nz2, nz10, nz100, hp_gi, hp_si, ↓reduceIte, if_true, if_false, Bool.true_eq_false, Bool.false_eq_true, eq_self, reduceCtorEq, zo0, zp0_0, zp0_1, zp0_2, zp0_4, zp0_5, zp0_6, zp0_7, zp0_8, zp0_9, zp0_10, zo1, zp1_0, zp1_5, zp1_6, zp1_9, zo16, zp16_0, zp16_5, zp16_6, zp16_9, zo31, zp31_0, zp31_5, zp31_6, zp31_9, zo46, zp46_0, zp46_1, zp46_2, zo79, zp79_0, zo83, zp83_0, zp83_1, zp83_2, zo87, zp87_0, zp87_1, zo121, zp121_0, zp121_1, zp121_2, zp121_4, zp121_5, zp121_6, zp121_7, zp121_8, zp121_16, zp121_17, zp121_18, zp121_21, zp121_23, zp121_24, zp121_25, zp121_26, zp121_27, zp121_28, zp121_29, zp121_30, zp121_31, zp121_32, zp121_33, zp121_34, zp79_2, zx2, zx13, zx14, zx15, zx17, zx28, zx29, zx30, zx32, zx43, zx44, zx45, zx47, zx78, zx80, zx84, zx85, zx86, zx88, zx89, zx90, zx99, zx120, zx122, zx123, zx124, zx125, zx126, zx127, zx128, zx129, zx130, zx131, zx132, zx133, zx134, zx135, zx136, zx137, zx138, zx139, zx140, zx141, zx142, zx143, zx144, zx145, zg2, zg17, zg32, zgo3, zgo18, zgo33, zl47, zlo, zlp, zlx, zs90, zso, zsp, zsx, zt99, zto, ztp1, ztp2, ztgo, ztso, ztsp, ztsx, zc0, zi0, zc1, zi1, zc2, zi2, zc3, zi3, zc4, zi4, zc5, zi5, p2, one0, hnots]
  rfl
theorem fl_want {lp n K : Nat} {b : Nat → Nat} {M X : Mem} {T : Tk} {W c : List Int32} {o : Nat} {ts : Nat → Bool} (hK : K < 3) (e15 : M 121 15 = nI K) (hB : TpR M b n) (h : YM M b n T true W c o ts X) (h2 : T.1 ≠ 2) (h1 : ¬ (T.1 = 1 ∧ T.2.2 - T.2.1 = 1 ∧ 0 ≤ nmS K (b T.2.1))) (h33 : ¬ (T.1 = 3 ∧ b T.2.1 = 33 ∧ noN W < 8)) (h40 : ¬ (T.1 = 3 ∧ b T.2.1 = 40 ∧ opN W < 8)) : FR M T.2.1 X ∧ ∀ fuel, rn lp (fuel + 1) true W X = some (0, hp lp X) := by
  refine ⟨?_, fun fuel => ?_⟩
  · obtain ⟨N, vl, ed, hX, hT, hF, s1, s2, s3, hl, hop, ha, -, hv, hz⟩ := h
    exact ⟨N, _, _, _, _, _, _, _, hX, hz⟩
  · rw [to158 h h33 h40 hB fuel]
    simp only [fxX10_takesE_b158, am_gd_t, am_lt_e, am_bd_s, bi_0, bi_bz, bz0, bz1, nz2, nz10, nz100, hp_gi, hp_si, ↓reduceIte, if_true, if_false, Bool.true_eq_false, Bool.false_eq_true, eq_self, reduceCtorEq, zo0, zp0_0, zp0_1, zp0_2, zp0_4, zp0_5, zp0_6, zp0_7, zp0_8, zp0_9, zp0_10, zo1, zp1_0, zp1_5, zp1_6, zp1_9, zo16, zp16_0, zp16_5, zp16_6, zp16_9, zo31, zp31_0, zp31_5, zp31_6, zp31_9, zo46, zp46_0, zp46_1, zp46_2, zo79, zp79_0, zo83, zp83_0, zp83_1, zp83_2, zo87, zp87_0, zp87_1, zo121, zp121_0, zp121_1, zp121_2, zp121_4, zp121_5, zp121_6, zp121_7, zp121_8, zp121_16, zp121_17, zp121_18, zp121_21, zp121_23, zp121_24, zp121_25, zp121_26, zp121_27, zp121_28, zp121_29, zp121_30, zp121_31, zp121_32, zp121_33, zp121_34, zp79_2, zx2, zx13, zx14, zx15, zx17, zx28, zx29, zx30, zx32, zx43, zx44, zx45, zx47, zx78, zx80, zx84, zx85, zx86, zx88, zx89, zx90, zx99, zx120, zx122, zx123, zx124, zx125, zx126, zx127, zx128, zx129, zx130, zx131, zx132, zx133, zx134, zx135, zx136, zx137, zx138, zx139, zx140, zx141, zx142, zx143, zx144, zx145, zg2, zg17, zg32, zgo3, zgo18, zgo33, zl47, zlo, zlp, zlx, zs90, zso, zsp, zsx, zt99, zto, ztp1, ztp2, ztgo, ztso, ztsp, ztsx, zc0, zi0, zc1, zi1, zc2, zi2, zc3, zi3, zc4, zi4, zc5, zi5, tp_no hK e15 hB h h2 h1]
/-- behind a piece: a closing bracket -/
theorem st_close {lp n : Nat} {b : Nat → Nat} {M X : Mem} {T : Tk} {W c W2 c1 : List Int32} {o : Nat} {ts : Nat → Bool} (hB : TpR M b n) (h : YM M b n T false W c o ts X) (h3 : T.1 = 3) (hb : b T.2.1 = 41) (hs : stl 0 W c = (-11 :: W2, c1)) : ∃ X', YM M b n (nx b n T) false (stl 6 W2 c1).1 (stl 6 W2 c1).2 o ts X' ∧ ∀ fuel, rn lp (fuel + 1) false W X = rn lp fuel false (stl 6 W2 c1).1 X' := by
  obtain ⟨N, vl, ed, rfl, hT, hF, s1, s2, s3, hl, hop, ha, -, hv, hz⟩ := h
  have hn := hB.1
  have hvl : vl = nI 41 := by rw [hF.1 (Or.inr h3), hb]
  obtain ⟨g1, g2⟩ := nx_go hT (by omega)
  have hst : T.2.1 < n := (hT.2.2.2.1 (by omega)).1
  obtain ⟨N1, t1, t2, t3, t4⟩ := q_settle (lp := lp) (r := 0) (by omega) (nx := nI T.2.2) (fr := nI T.2.1) (tk := nI T.1) (vl := vl) (ed := ed) (am := nI o) W c am_F N (by unfold am_F; omega) (by omega) s1 s2
  have hopW := stl_op 0 W c
  have hlen := stl_len 0 W c
  have hmem := stl_mem 0 W c
  have hadj := stl_adj 0 W c ha
  rw [hs] at t1 t2 t3 hopW hlen hmem hadj
  dsimp only at t1 t2 t3 hopW hlen hmem hadj
  rw [op_o] at hopW
  simp only [List.length_cons] at hlen t1
  obtain ⟨N2, u1, u2, u3, u4⟩ := q_settle (lp := lp) (r := 6) (by omega) (nx := nI T.2.2) (fr := nI T.2.1) (tk := nI T.1) (vl := vl) (ed := ed) (am := nI o) W2 c1 am_F N1 (by unfold am_F; omega) (by omega) t2 t3.2
  have fr2 : ∀ z, z ≠ 132 → z ≠ 133 → z ≠ 134 → N2 z = M z := fun z z1 z2 z3 => by rw [u4 z z1, t4 z z1, hz z z1 z2 z3]
  obtain ⟨vl', ed', p1, p2⟩ := go_T (lp := lp) (N := N2) (vl := vl) (ed := ed) (cd := nI (stl 6 W2 c1).2.length) (am := nI o) (hd := nI (stl 6 W2 c1).1.length) (TpR_c hB fr2) hT (by omega) hF
  have hlen2 := stl_len 6 W2 c1
  have hv2 : ∀ x, x ∈ W2 → -11 ≤ x := fun x hx => hv x (hmem x (List.mem_cons_of_mem _ hx))
  refine ⟨_, ⟨N2, vl', ed', rfl, g1, p2, u2, u3, fun j hj => by rw [stl_op] at hj; rw [u4 134 (by decide), t4 134 (by decide)]; exact s3 j (by omega), by omega, by rw [stl_op]; omega, stl_adj 6 W2 c1 (adj_t hadj), fun _ => stl_6 W2 c1 hv2, fun y hy => hv2 y (stl_mem 6 W2 c1 y hy), fr2⟩, fun fuel => ?_⟩
  have hnots := q_nots (lp := lp) (nx := nI T.2.2) (fr := nI T.2.1) (tk := nI T.1) (vl := vl) (ed := ed) (am := nI o) (cd := nI (stl 6 W2 c1).2.length) (W := (stl 6 W2 c1).1) (N := N2) (by omega) u3
  have t1 : fxX10_settle (some 121) (0 : Int32) (hp lp (GM N (nI T.2.2) (nI T.2.1) (nI T.1) vl ed (nI c.length) (nI o) (nI W.length))) = some ((), hp lp (GM N1 (nI T.2.2) (nI T.2.1) (nI T.1) vl ed (nI c1.length) (nI o) (nI (W2.length + 1)))) := t1
  have u1 : fxX10_settle (some 121) (6 : Int32) (hp lp (GM N1 (nI T.2.2) (nI T.2.1) (nI T.1) vl ed (nI c1.length) (nI o) (nI W2.length))) = some ((), hp lp (GM N2 (nI T.2.2) (nI T.2.1) (nI T.1) vl ed (nI (stl 6 W2 c1).2.length) (nI o) (nI (stl 6 W2 c1).1.length))) := u1
  have h41 : (vl = (41 : Int32)) = True := by rw [hvl]; decide
  have hz0 : (nI T.1 = 0) = False := by rw [h3]; decide
  have hpos : (nI (opN W) ≤ 0) = False := eq_false (nI_nle (by omega) (by omega))
  have hm1 : nI (opN W) + (-1) = nI (opN W2) := by rw [← hopW]; exact pk_m1 _
  unfold rn
  rw [stl_op]
  simp only [fxX10_takesE_b28, fxX10_takesE_b39, am_gd_t, am_lt_e, am_bd_s, bi_0, bi_bz, bz0, bz1, nz2, nz10, nz100, hp_gi, hp_si, ↓reduceIte, if_true, if_false, Bool.true_eq_false, Bool.false_eq_true, eq_self, reduceCtorEq, zo0, zp0_0, zp0_1, zp0_2, zp0_4, zp0_5, zp0_6, zp0_7, zp0_8, zp0_9, zp0_10, zo1, zp1_0, zp1_5, zp1_6, zp1_9, zo16, zp16_0, zp16_5, zp16_6, zp16_9, zo31, zp31_0, zp31_5, zp31_6, zp31_9, zo46, zp46_0, zp46_1, zp46_2, zo79, zp79_0, zo83, zp83_0, zp83_1, zp83_2, zo87, zp87_0, zp87_1, zo121, zp121_0, zp121_1, zp121_2, zp121_4, zp121_5, zp121_6, zp121_7, zp121_8, zp121_16, zp121_17, zp121_18, zp121_21, zp121_23, zp121_24, zp121_25, zp121_26, zp121_27, zp121_28, zp121_29, zp121_30, zp121_31, zp121_32, zp121_33, zp121_34, zp79_2, zx2, zx13, zx14, zx15, zx17, zx28, zx29, zx30, zx32, zx43, zx44, zx45, zx47, zx78, zx80, zx84, zx85, zx86, zx88, zx89, zx90, zx99, zx120, zx122, zx123, zx124, zx125, zx126, zx127, zx128, zx129, zx130, zx131, zx132, zx133, zx134, zx135, zx136, zx137, zx138, zx139, zx140, zx141, zx142, zx143, zx144, zx145, zg2, zg17, zg32, zgo3, zgo18, zgo33, zl47, zlo, zlp, zlx, zs90, zso, zsp, zsx, zt99, zto, ztp1, ztp2, ztgo, ztso, ztsp, ztsx, zc0, zi0, zc1, zi1, zc2, zi2, zc3, zi3, zc4, zi4, zc5, zi5, gm_12, gm_13, gm_22, gm_u22, hz0, g3 h3, h41, hpos, t1, nI_pred, u1, hm1, hnots, p1]
/-- behind a piece: to the signs -/
theorem to237 {lp n : Nat} {b : Nat → Nat} {M X : Mem} {T : Tk} {W c : List Int32} {o : Nat} {ts : Nat → Bool} (hB : TpR M b n) (h : YM M b n T false W c o ts X) (h0 : T.1 ≠ 0) (h41 : ¬ (T.1 = 3 ∧ b T.2.1 = 41 ∧ 0 < opN W)) (fuel : Nat) : rn lp (fuel + 1) false W X = fxX10_takesE_b237 (fxX10_takesE_b28 fuel) (some 121) (nI (opN W)) (nI (noN W)) (hp lp X) := by
  obtain ⟨N, vl, ed, rfl, hT, hF, s1, s2, s3, hl, hop, ha, -, hv, hz⟩ := h
  have hn := hB.1
  have hT4 := hT.2.2.2.2.1
  have hz0 : (nI T.1 = 0) = False := eq_false (nI_ne0 (by omega) (by omega))
  unfold rn
  by_cases q3 : T.1 = 3
  · have hst : T.2.1 < n := (hT.2.2.2.1 (by omega)).1
    have hvl := hF.1 (Or.inr q3)
    have hb := (hB.2.2 _ hst).2
    have c41 : (vl = (41 : Int32)) = (b T.2.1 = 41) := by rw [hvl]; exact propext (nI_eq (b := 41) (by omega) (by decide))
    by_cases q : b T.2.1 = 41
    · have d := c41.trans (eq_true q)
      have hop0 : opN W = 0 := by omega
      have hpos : (nI (opN W) ≤ 0) = True := by rw [hop0]; decide
      simp only [fxX10_takesE_b28, fxX10_takesE_b39, am_gd_t, am_lt_e, am_bd_s, bi_0, bi_bz, bz0, bz1, nz2, nz10, nz100, hp_gi, hp_si, ↓reduceIte, if_true, if_false, Bool.true_eq_false, Bool.false_eq_true, eq_self, reduceCtorEq, zo0, zp0_0, zp0_1, zp0_2, zp0_4, zp0_5, zp0_6, zp0_7, zp0_8, zp0_9, zp0_10, zo1, zp1_0, zp1_5, zp1_6, zp1_9, zo16, zp16_0, zp16_5, zp16_6, zp16_9, zo31, zp31_0, zp31_5, zp31_6, zp31_9, zo46, zp46_0, zp46_1, zp46_2, zo79, zp79_0, zo83, zp83_0, zp83_1, zp83_2, zo87, zp87_0, zp87_1, zo121, zp121_0, zp121_1, zp121_2, zp121_4, zp121_5, zp121_6, zp121_7, zp121_8, zp121_16, zp121_17, zp121_18, zp121_21, zp121_23, zp121_24, zp121_25, zp121_26, zp121_27, zp121_28, zp121_29, zp121_30, zp121_31, zp121_32, zp121_33, zp121_34, zp79_2, zx2, zx13, zx14, zx15, zx17, zx28, zx29, zx30, zx32, zx43, zx44, zx45, zx47, zx78, zx80, zx84, zx85, zx86, zx88, zx89, zx90, zx99, zx120, zx122, zx123, zx124, zx125, zx126, zx127, zx128, zx129, zx130, zx131, zx132, zx133, zx134, zx135, zx136, zx137, zx138, zx139, zx140, zx141, zx142, zx143, zx144, zx145, zg2, zg17, zg32, zgo3, zgo18, zgo33, zl47, zlo, zlp, zlx, zs90, zso, zsp, zsx, zt99, zto, ztp1, ztp2, ztgo, ztso, ztsp, ztsx, zc0, zi0, zc1, zi1, zc2, zi2, zc3, zi3, zc4, zi4, zc5, zi5, gm_12, gm_13, hz0, g3 q3, d, hpos]
    · have d := c41.trans (eq_false q)
      simp only [fxX10_takesE_b28, fxX10_takesE_b39, am_gd_t, am_lt_e, am_bd_s, bi_0, bi_bz, bz0, bz1, nz2, nz10, nz100, hp_gi, hp_si, ↓reduceIte, if_true, if_false, Bool.true_eq_false, Bool.false_eq_true, eq_self, reduceCtorEq, zo0, zp0_0, zp0_1, zp0_2, zp0_4, zp0_5, zp0_6, zp0_7, zp0_8, zp0_9, zp0_10, zo1, zp1_0, zp1_5, zp1_6, zp1_9, zo16, zp16_0, zp16_5, zp16_6, zp16_9, zo31, zp31_0, zp31_5, zp31_6, zp31_9, zo46, zp46_0, zp46_1, zp46_2, zo79, zp79_0, zo83, zp83_0, zp83_1, zp83_2, zo87, zp87_0, zp87_1, zo121, zp121_0, zp121_1, zp121_2, zp121_4, zp121_5, zp121_6, zp121_7, zp121_8, zp121_16, zp121_17, zp121_18, zp121_21, zp121_23, zp121_24, zp121_25, zp121_26, zp121_27, zp121_28, zp121_29, zp121_30, zp121_31, zp121_32, zp121_33, zp121_34, zp79_2, zx2, zx13, zx14, zx15, zx17, zx28, zx29, zx30, zx32, zx43, zx44, zx45, zx47, zx78, zx80, zx84, zx85, zx86, zx88, zx89, zx90, zx99, zx120, zx122, zx123, zx124, zx125, zx126, zx127, zx128, zx129, zx130, zx131, zx132, zx133, zx134, zx135, zx136, zx137, zx138, zx139, zx140, zx141, zx142, zx143, zx144, zx145, zg2, zg17, zg32, zgo3, zgo18, zgo33, zl47, zlo, zlp, zlx, zs90, zso, zsp, zsx, zt99, zto, ztp1, ztp2, ztgo, ztso, ztsp, ztsx, zc0, zi0, zc1, zi1, zc2, zi2, zc3, zi3, zc4, zi4, zc5, zi5, gm_12, gm_13, hz0, g3 q3, d]
  · simp only [fxX10_takesE_b28, fxX10_takesE_b39, am_gd_t, am_lt_e, am_bd_s, bi_0, bi_bz, bz0, bz1, nz2, nz10, nz100, hp_gi, hp_si, ↓reduceIte, if_true, if_false, Bool.true_eq_false, Bool.false_eq_true, eq_self, reduceCtorEq, zo0, zp0_0, zp0_1, zp0_2, zp0_4, zp0_5, zp0_6, zp0_7, zp0_8, zp0_9, zp0_10, zo1, zp1_0, zp1_5, zp1_6, zp1_9, zo16, zp16_0, zp16_5, zp16_6, zp16_9, zo31, zp31_0, zp31_5, zp31_6, zp31_9, zo46, zp46_0, zp46_1, zp46_2, zo79, zp79_0, zo83, zp83_0, zp83_1, zp83_2, zo87, zp87_0, zp87_1, zo121, zp121_0, zp121_1, zp121_2, zp121_4, zp121_5, zp121_6, zp121_7, zp121_8, zp121_16, zp121_17, zp121_18, zp121_21, zp121_23, zp121_24, zp121_25, zp121_26, zp121_27, zp121_28, zp121_29, zp121_30, zp121_31, zp121_32, zp121_33, zp121_34, zp79_2, zx2, zx13, zx14, zx15, zx17, zx28, zx29, zx30, zx32, zx43, zx44, zx45, zx47, zx78, zx80, zx84, zx85, zx86, zx88, zx89, zx90, zx99, zx120, zx122, zx123, zx124, zx125, zx126, zx127, zx128, zx129, zx130, zx131, zx132, zx133, zx134, zx135, zx136, zx137, zx138, zx139, zx140, zx141, zx142, zx143, zx144, zx145, zg2, zg17, zg32, zgo3, zgo18, zgo33, zl47, zlo, zlp, zlx, zs90, zso, zsp, zsx, zt99, zto, ztp1, ztp2, ztgo, ztso, ztsp, ztsx, zc0, zi0, zc1, zi1, zc2, zi2, zc3, zi3, zc4, zi4, zc5, zi5, gm_12, hz0, g3' q3 hT4]
theorem sh_here {lp n : Nat} {b : Nat → Nat} {M X : Mem} {T : Tk} {wn : Bool} {W c : List Int32} {o : Nat} {ts : Nat → Bool} (hB : TpR M b n) (h : YM M b n T wn W c o ts X) : fxX10_signHere (some 121) (hp lp X) = some (sh b T, hp lp X) := by
  obtain ⟨N, vl, ed, rfl, hT, hF, s1, s2, s3, hl, hop, ha, -, hv, hz⟩ := h
  have hT4 := hT.2.2.2.2.1
  unfold sh
  by_cases q3 : T.1 = 3
  · have hst := (hT.2.2.2.1 (by omega)).1
    have hvl := hF.1 (Or.inr q3)
    have hb := (hB.2.2 _ hst).2
    subst hvl
    rw [q_signHere hT4 hb]
  · rw [if_neg q3]
    exact q_signHere' (fun q => q3 ((nI_eq (b := 3) (by omega) (by decide)).mp q))
theorem fl_sign {lp n : Nat} {b : Nat → Nat} {M X : Mem} {T : Tk} {W c : List Int32} {o : Nat} {ts : Nat → Bool} (hB : TpR M b n) (h : YM M b n T false W c o ts X) (h0 : T.1 ≠ 0) (h41 : ¬ (T.1 = 3 ∧ b T.2.1 = 41 ∧ 0 < opN W)) (hs : sh b T = 0 ∨ (rk (sh b T) = 3 ∧ ts (opN W) = true)) : FR M T.2.1 X ∧ ∀ fuel, rn lp (fuel + 1) false W X = some (0, hp lp X) := by
  have hsg := sh_here (lp := lp) hB h
  have hto := fun fuel => to237 (lp := lp) hB h h0 h41 fuel
  obtain ⟨N, vl, ed, hX, hT, hF, s1, s2, s3, hl, hop, ha, -, hv, hz⟩ := h
  refine ⟨⟨N, _, _, _, _, _, _, _, hX, hz⟩, fun fuel => ?_⟩
  rw [hto fuel]
  by_cases q0 : sh b T = 0
  · have d := eq_true q0
    simp only [fxX10_takesE_b237, am_gd_t, am_lt_e, am_bd_s, bi_0, bi_bz, bz0, bz1, nz2, nz10, nz100, hp_gi, hp_si, ↓reduceIte, if_true, if_false, Bool.true_eq_false, Bool.false_eq_true, eq_self, reduceCtorEq, zo0, zp0_0, zp0_1, zp0_2, zp0_4, zp0_5, zp0_6, zp0_7, zp0_8, zp0_9, zp0_10, zo1, zp1_0, zp1_5, zp1_6, zp1_9, zo16, zp16_0, zp16_5, zp16_6, zp16_9, zo31, zp31_0, zp31_5, zp31_6, zp31_9, zo46, zp46_0, zp46_1, zp46_2, zo79, zp79_0, zo83, zp83_0, zp83_1, zp83_2, zo87, zp87_0, zp87_1, zo121, zp121_0, zp121_1, zp121_2, zp121_4, zp121_5, zp121_6, zp121_7, zp121_8, zp121_16, zp121_17, zp121_18, zp121_21, zp121_23, zp121_24, zp121_25, zp121_26, zp121_27, zp121_28, zp121_29, zp121_30, zp121_31, zp121_32, zp121_33, zp121_34, zp79_2, zx2, zx13, zx14, zx15, zx17, zx28, zx29, zx30, zx32, zx43, zx44, zx45, zx47, zx78, zx80, zx84, zx85, zx86, zx88, zx89, zx90, zx99, zx120, zx122, zx123, zx124, zx125, zx126, zx127, zx128, zx129, zx130, zx131, zx132, zx133, zx134, zx135, zx136, zx137, zx138, zx139, zx140, zx141, zx142, zx143, zx144, zx145, zg2, zg17, zg32, zgo3, zgo18, zgo33, zl47, zlo, zlp, zlx, zs90, zso, zsp, zsx, zt99, zto, ztp1, ztp2, ztgo, ztso, ztsp, ztsx, zc0, zi0, zc1, zi1, zc2, zi2, zc3, zi3, zc4, zi4, zc5, zi5, hsg, d]
  · obtain ⟨q1, q2⟩ := hs.resolve_left q0
    have d := eq_false q0
    have et : X 134 (opN W) = 1 := by rw [hX, gm_134, s3 (opN W) (Nat.le_refl _), q2]; rfl
    simp (disch := omega) only [fxX10_takesE_b237, am_gd_t, am_lt_e, am_bd_s, bi_0, bi_bz, bz0, bz1, nz2, nz10, nz100, hp_gi, hp_si, ↓reduceIte, if_true, if_false, Bool.true_eq_false, Bool.false_eq_true, eq_self, reduceCtorEq, zo0, zp0_0, zp0_1, zp0_2, zp0_4, zp0_5, zp0_6, zp0_7, zp0_8, zp0_9, zp0_10, zo1, zp1_0, zp1_5, zp1_6, zp1_9, zo16, zp16_0, zp16_5, zp16_6, zp16_9, zo31, zp31_0, zp31_5, zp31_6, zp31_9, zo46, zp46_0, zp46_1, zp46_2, zo79, zp79_0, zo83, zp83_0, zp83_1, zp83_2, zo87, zp87_0, zp87_1, zo121, zp121_0, zp121_1, zp121_2, zp121_4, zp121_5, zp121_6, zp121_7, zp121_8, zp121_16, zp121_17, zp121_18, zp121_21, zp121_23, zp121_24, zp121_25, zp121_26, zp121_27, zp121_28, zp121_29, zp121_30, zp121_31, zp121_32, zp121_33, zp121_34, zp79_2, zx2, zx13, zx14, zx15, zx17, zx28, zx29, zx30, zx32, zx43, zx44, zx45, zx47, zx78, zx80, zx84, zx85, zx86, zx88, zx89, zx90, zx99, zx120, zx122, zx123, zx124, zx125, zx126, zx127, zx128, zx129, zx130, zx131, zx132, zx133, zx134, zx135, zx136, zx137, zx138, zx139, zx140, zx141, zx142, zx143, zx144, zx145, zg2, zg17, zg32, zgo3, zgo18, zgo33, zl47, zlo, zlp, zlx, zs90, zso, zsp, zsx, zt99, zto, ztp1, ztp2, ztgo, ztso, ztsp, ztsx, zc0, zi0, zc1, zi1, zc2, zi2, zc3, zi3, zc4, zi4, zc5, zi5, zin, zcl, nI_1, Bool.and_self, Bool.true_and, Bool.and_true, hsg, d, q_rank, q1, show (nI 3 = (3 : Int32)) = True from by decide, et, one0]
theorem st_sign {lp n : Nat} {b : Nat → Nat} {M X : Mem} {T : Tk} {W c : List Int32} {o : Nat} {ts : Nat → Bool} (hB : TpR M b n) (h : YM M b n T false W c o ts X) (hs0 : ¬ sh b T = 0) (hs3 : ¬ (rk (sh b T) = 3 ∧ ts (opN W) = true)) (h5 : rk (sh b T) ≤ 5) (hx11 : -11 ≤ sh b T) (hxo : sh b T ≠ -11) (hxn : sh b T ≠ -10) : ∃ X', YM M b n (nx b n T) true (sh b T :: (stl (rk (sh b T)) W c).1) (stl (rk (sh b T)) W c).2 o (fun j => if j = opN W then (decide (rk (sh b T) = 3) || (decide (3 < rk (sh b T)) && ts j)) else ts j) X' ∧ ∀ fuel, rn lp (fuel + 1) false W X = rn lp fuel true (sh b T :: (stl (rk (sh b T)) W c).1) X' := by
  have h3 := sh_3 hs0
  have hnoP : ¬ (T.1 = 3 ∧ b T.2.1 = 41 ∧ 0 < opN W) := fun q => hs0 (by unfold sh; rw [if_pos h3, q.2.1]; rfl)
  have hsg := sh_here (lp := lp) hB h
  have hto := fun fuel => to237 (lp := lp) hB h (by omega) hnoP fuel
  obtain ⟨N, vl, ed, hX, hT, hF, s1, s2, s3, hl, hop, ha, hh, hv, hz⟩ := h
  have hh := hh rfl
  have hn := hB.1
  obtain ⟨g1, g2⟩ := nx_go hT (by omega)
  have hst : T.2.1 < n := (hT.2.2.2.1 (by omega)).1
  generalize hx : sh b T = x at *
  generalize htb : (decide (rk x = 3) || (decide (3 < rk x) && ts (opN W))) = tb
  generalize hN1 : am_up N 134 (opN W) (bi tb) = N1
  have r1 : ∀ z, z ≠ 134 → N1 z = N z := fun z hz => by rw [← hN1, am_up_ne hz]
  obtain ⟨N2, t1, t2, t3, t4⟩ := q_settle (lp := lp) (r := rk x) (by omega) (nx := nI T.2.2) (fr := nI T.2.1) (tk := nI T.1) (vl := vl) (ed := ed) (am := nI o) W c am_F N1 (by unfold am_F; omega) (by omega) (by rw [r1 132 (by decide)]; exact s1) (by rw [r1 133 (by decide)]; exact s2)
  have hopW := stl_op (rk x) W c
  have hlen := stl_len (rk x) W c
  have hmem := stl_mem (rk x) W c
  have hadj := stl_adj (rk x) W c ha
  obtain ⟨hno, hhd⟩ := stl_no (rk x) W c ha hh
  generalize hW1 : (stl (rk x) W c).1 = W1 at *
  generalize hc1 : (stl (rk x) W c).2 = c1 at *
  generalize hN3 : am_up N2 133 W1.length x = N3
  have r3 : ∀ z, z ≠ 133 → N3 z = N2 z := fun z hz => by rw [← hN3, am_up_ne hz]
  have fr3 : ∀ z, z ≠ 132 → z ≠ 133 → z ≠ 134 → N3 z = M z := fun z z1 z2 z3 => by rw [r3 z z2, t4 z z1, r1 z z3, hz z z1 z2 z3]
  obtain ⟨vl', ed', p1, p2⟩ := go_T (lp := lp) (N := N3) (vl := vl) (ed := ed) (cd := nI c1.length) (am := nI o) (hd := nI (W1.length + 1)) (TpR_c hB fr3) hT (by omega) hF
  have e134 : ∀ j, j ≤ opN W → N3 134 j = bi (if j = opN W then (decide (rk x = 3) || (decide (3 < rk x) && ts j)) else ts j) := fun j hj => by
    rw [r3 134 (by decide), t4 134 (by decide), ← hN1, up_row]
    by_cases q : j = opN W
    · rw [if_pos q, q, up1_eq, htb]
    · rw [if_neg q, up1_ne q]; exact s3 j hj
  refine ⟨GM N3 (nI (nx b n T).2.2) (nI (nx b n T).2.1) (nI (nx b n T).1) vl' ed' (nI c1.length) (nI o) (nI (W1.length + 1)), ⟨N3, vl', ed', rfl, g1, p2, by rw [r3 132 (by decide)]; exact t2, by rw [← hN3, up_row]; exact ⟨up1_eq _ _ _, SR_up (Nat.le_refl _) t3⟩, by rw [op_c _ _ hxo, hopW]; exact e134, by simp only [List.length_cons]; omega, by rw [op_c _ _ hxo, hopW]; exact hop, adj_c hadj (Or.inl hhd), (fun q => by cases q), (fun y hy => by rcases List.mem_cons.mp hy with q | q; rw [q]; exact hx11; exact hv y (hmem y q)), fr3⟩, fun fuel => ?_⟩
  rw [hto fuel]
  have d := eq_false hs0
  have hrk := rk_le x
  have e134W : X 134 (opN W) = bi (ts (opN W)) := by rw [hX, gm_134]; exact s3 _ (Nat.le_refl _)
  have c3 : (nI (rk x) = (3 : Int32)) = (rk x = 3) := propext (nI_eq (b := 3) (by omega) (by decide))
  have c3l : (nI (rk x) ≤ (3 : Int32)) = (rk x ≤ 3) := propext (nI_leI (b := 3) (by omega) (by decide))
  have t1 : fxX10_settle (some 121) (nI (rk x)) (hp lp (GM N1 (nI T.2.2) (nI T.2.1) (nI T.1) vl ed (nI c.length) (nI o) (nI W.length))) = some ((), hp lp (GM N2 (nI T.2.2) (nI T.2.1) (nI T.1) vl ed (nI c1.length) (nI o) (nI W1.length))) := t1
  have eu1 : am_up X 134 (opN W) (bi tb) = GM N1 (nI T.2.2) (nI T.2.1) (nI T.1) vl ed (nI c.length) (nI o) (nI W.length) := by rw [hX, gm_ou (by decide), hN1]
  have eu3 : ∀ hd, am_up (GM N2 (nI T.2.2) (nI T.2.1) (nI T.1) vl ed (nI c1.length) (nI o) hd) 133 W1.length x = GM N3 (nI T.2.2) (nI T.2.1) (nI T.1) vl ed (nI c1.length) (nI o) hd := fun hd => by rw [gm_ou (by decide), hN3]
  have b305 : ∀ s0, s0 = bi tb → fxX10_takesE_b305 (fxX10_takesE_b28 fuel) (some 121) (nI (opN W)) (nI (noN W)) x s0 (nI (opN W)) (some 134) (hp lp X) = rn lp fuel true (x :: W1) (GM N3 (nI (nx b n T).2.2) (nI (nx b n T).2.1) (nI (nx b n T).1) vl' ed' (nI c1.length) (nI o) (nI (W1.length + 1))) := by
    intro s0 hs0'
    subst hs0'
    unfold rn
    rw [op_c _ _ hxo, hopW, no_c _ _ hxn, hno]
    simp (disch := omega) only [fxX10_takesE_b305, am_gd_t, am_lt_e, am_bd_s, bi_0, bi_bz, bz0, bz1, nz2, nz10, nz100, hp_gi, hp_si, ↓reduceIte, if_true, if_false, Bool.true_eq_false, Bool.false_eq_true, eq_self, reduceCtorEq, zo0, zp0_0, zp0_1, zp0_2, zp0_4, zp0_5, zp0_6, zp0_7, zp0_8, zp0_9, zp0_10, zo1, zp1_0, zp1_5, zp1_6, zp1_9, zo16, zp16_0, zp16_5, zp16_6, zp16_9, zo31, zp31_0, zp31_5, zp31_6, zp31_9, zo46, zp46_0, zp46_1, zp46_2, zo79, zp79_0, zo83, zp83_0, zp83_1, zp83_2, zo87, zp87_0, zp87_1, zo121, zp121_0, zp121_1, zp121_2, zp121_4, zp121_5, zp121_6, zp121_7, zp121_8, zp121_16, zp121_17, zp121_18, zp121_21, zp121_23, zp121_24, zp121_25, zp121_26, zp121_27, zp121_28, zp121_29, zp121_30, zp121_31, zp121_32, zp121_33, zp121_34, zp79_2, zx2, zx13, zx14, zx15, zx17, zx28, zx29, zx30, zx32, zx43, zx44, zx45, zx47, zx78, zx80, zx84, zx85, zx86, zx88, zx89, zx90, zx99, zx120, zx122, zx123, zx124, zx125, zx126, zx127, zx128, zx129, zx130, zx131, zx132, zx133, zx134, zx135, zx136, zx137, zx138, zx139, zx140, zx141, zx142, zx143, zx144, zx145, zg2, zg17, zg32, zgo3, zgo18, zgo33, zl47, zlo, zlp, zlx, zs90, zso, zsp, zsx, zt99, zto, ztp1, ztp2, ztgo, ztso, ztsp, ztsx, zc0, zi0, zc1, zi1, zc2, zi2, zc3, zi3, zc4, zi4, zc5, zi5, zin, zcl, nI_1, Bool.and_self, Bool.true_and, Bool.and_true, Bool.and_self, eu1, q_rank, t1, gm_22, gm_u22, eu3, p1]
    rfl
  have b268 : fxX10_takesE_b268 (fxX10_takesE_b28 fuel) (some 121) (nI (opN W)) (nI (noN W)) x (hp lp X) = rn lp fuel true (x :: W1) (GM N3 (nI (nx b n T).2.2) (nI (nx b n T).2.1) (nI (nx b n T).1) vl' ed' (nI c1.length) (nI o) (nI (W1.length + 1))) := by
    by_cases q3 : rk x = 3
    · have d3 := c3.trans (eq_true q3)
      have htb1 : (1 : Int32) = bi tb := by rw [← htb, decide_eq_true q3]; rfl
      simp only [fxX10_takesE_b268, fxX10_takesE_b300, am_gd_t, am_lt_e, am_bd_s, bi_0, bi_bz, bz0, bz1, nz2, nz10, nz100, hp_gi, hp_si, ↓reduceIte, if_true, if_false, Bool.true_eq_false, Bool.false_eq_true, eq_self, reduceCtorEq, zo0, zp0_0, zp0_1, zp0_2, zp0_4, zp0_5, zp0_6, zp0_7, zp0_8, zp0_9, zp0_10, zo1, zp1_0, zp1_5, zp1_6, zp1_9, zo16, zp16_0, zp16_5, zp16_6, zp16_9, zo31, zp31_0, zp31_5, zp31_6, zp31_9, zo46, zp46_0, zp46_1, zp46_2, zo79, zp79_0, zo83, zp83_0, zp83_1, zp83_2, zo87, zp87_0, zp87_1, zo121, zp121_0, zp121_1, zp121_2, zp121_4, zp121_5, zp121_6, zp121_7, zp121_8, zp121_16, zp121_17, zp121_18, zp121_21, zp121_23, zp121_24, zp121_25, zp121_26, zp121_27, zp121_28, zp121_29, zp121_30, zp121_31, zp121_32, zp121_33, zp121_34, zp79_2, zx2, zx13, zx14, zx15, zx17, zx28, zx29, zx30, zx32, zx43, zx44, zx45, zx47, zx78, zx80, zx84, zx85, zx86, zx88, zx89, zx90, zx99, zx120, zx122, zx123, zx124, zx125, zx126, zx127, zx128, zx129, zx130, zx131, zx132, zx133, zx134, zx135, zx136, zx137, zx138, zx139, zx140, zx141, zx142, zx143, zx144, zx145, zg2, zg17, zg32, zgo3, zgo18, zgo33, zl47, zlo, zlp, zlx, zs90, zso, zsp, zsx, zt99, zto, ztp1, ztp2, ztgo, ztso, ztsp, ztsx, zc0, zi0, zc1, zi1, zc2, zi2, zc3, zi3, zc4, zi4, zc5, zi5, q_rank, d3]
      exact b305 1 htb1
    · have d3 := c3.trans (eq_false q3)
      by_cases ql : rk x ≤ 3
      · have dl := c3l.trans (eq_true ql)
        have htb1 : (0 : Int32) = bi tb := by rw [← htb, decide_eq_false q3, decide_eq_false (show ¬ 3 < rk x by omega)]; rfl
        simp only [fxX10_takesE_b268, fxX10_takesE_b304, am_gd_t, am_lt_e, am_bd_s, bi_0, bi_bz, bz0, bz1, nz2, nz10, nz100, hp_gi, hp_si, ↓reduceIte, if_true, if_false, Bool.true_eq_false, Bool.false_eq_true, eq_self, reduceCtorEq, zo0, zp0_0, zp0_1, zp0_2, zp0_4, zp0_5, zp0_6, zp0_7, zp0_8, zp0_9, zp0_10, zo1, zp1_0, zp1_5, zp1_6, zp1_9, zo16, zp16_0, zp16_5, zp16_6, zp16_9, zo31, zp31_0, zp31_5, zp31_6, zp31_9, zo46, zp46_0, zp46_1, zp46_2, zo79, zp79_0, zo83, zp83_0, zp83_1, zp83_2, zo87, zp87_0, zp87_1, zo121, zp121_0, zp121_1, zp121_2, zp121_4, zp121_5, zp121_6, zp121_7, zp121_8, zp121_16, zp121_17, zp121_18, zp121_21, zp121_23, zp121_24, zp121_25, zp121_26, zp121_27, zp121_28, zp121_29, zp121_30, zp121_31, zp121_32, zp121_33, zp121_34, zp79_2, zx2, zx13, zx14, zx15, zx17, zx28, zx29, zx30, zx32, zx43, zx44, zx45, zx47, zx78, zx80, zx84, zx85, zx86, zx88, zx89, zx90, zx99, zx120, zx122, zx123, zx124, zx125, zx126, zx127, zx128, zx129, zx130, zx131, zx132, zx133, zx134, zx135, zx136, zx137, zx138, zx139, zx140, zx141, zx142, zx143, zx144, zx145, zg2, zg17, zg32, zgo3, zgo18, zgo33, zl47, zlo, zlp, zlx, zs90, zso, zsp, zsx, zt99, zto, ztp1, ztp2, ztgo, ztso, ztsp, ztsx, zc0, zi0, zc1, zi1, zc2, zi2, zc3, zi3, zc4, zi4, zc5, zi5, q_rank, d3, dl]
        exact b305 0 htb1
      · have dl := c3l.trans (eq_false ql)
        have htb1 : bi (ts (opN W)) = bi tb := by rw [← htb, decide_eq_false q3, decide_eq_true (show 3 < rk x by omega)]; rfl
        cases hts : ts (opN W) with
        | false =>
          rw [hts] at e134W htb1
          simp (disch := omega) only [fxX10_takesE_b268, fxX10_takesE_b304, am_gd_t, am_lt_e, am_bd_s, bi_0, bi_bz, bz0, bz1, nz2, nz10, nz100, hp_gi, hp_si, ↓reduceIte, if_true, if_false, Bool.true_eq_false, Bool.false_eq_true, eq_self, reduceCtorEq, zo0, zp0_0, zp0_1, zp0_2, zp0_4, zp0_5, zp0_6, zp0_7, zp0_8, zp0_9, zp0_10, zo1, zp1_0, zp1_5, zp1_6, zp1_9, zo16, zp16_0, zp16_5, zp16_6, zp16_9, zo31, zp31_0, zp31_5, zp31_6, zp31_9, zo46, zp46_0, zp46_1, zp46_2, zo79, zp79_0, zo83, zp83_0, zp83_1, zp83_2, zo87, zp87_0, zp87_1, zo121, zp121_0, zp121_1, zp121_2, zp121_4, zp121_5, zp121_6, zp121_7, zp121_8, zp121_16, zp121_17, zp121_18, zp121_21, zp121_23, zp121_24, zp121_25, zp121_26, zp121_27, zp121_28, zp121_29, zp121_30, zp121_31, zp121_32, zp121_33, zp121_34, zp79_2, zx2, zx13, zx14, zx15, zx17, zx28, zx29, zx30, zx32, zx43, zx44, zx45, zx47, zx78, zx80, zx84, zx85, zx86, zx88, zx89, zx90, zx99, zx120, zx122, zx123, zx124, zx125, zx126, zx127, zx128, zx129, zx130, zx131, zx132, zx133, zx134, zx135, zx136, zx137, zx138, zx139, zx140, zx141, zx142, zx143, zx144, zx145, zg2, zg17, zg32, zgo3, zgo18, zgo33, zl47, zlo, zlp, zlx, zs90, zso, zsp, zsx, zt99, zto, ztp1, ztp2, ztgo, ztso, ztsp, ztsx, zc0, zi0, zc1, zi1, zc2, zi2, zc3, zi3, zc4, zi4, zc5, zi5, zin, zcl, nI_1, Bool.and_self, Bool.true_and, Bool.and_true, q_rank, d3, dl, e134W]
          exact b305 0 htb1
        | true =>
          rw [hts] at e134W htb1
          simp (disch := omega) only [fxX10_takesE_b268, fxX10_takesE_b300, am_gd_t, am_lt_e, am_bd_s, bi_0, bi_bz, bz0, bz1, nz2, nz10, nz100, hp_gi, hp_si, ↓reduceIte, if_true, if_false, Bool.true_eq_false, Bool.false_eq_true, eq_self, reduceCtorEq, zo0, zp0_0, zp0_1, zp0_2, zp0_4, zp0_5, zp0_6, zp0_7, zp0_8, zp0_9, zp0_10, zo1, zp1_0, zp1_5, zp1_6, zp1_9, zo16, zp16_0, zp16_5, zp16_6, zp16_9, zo31, zp31_0, zp31_5, zp31_6, zp31_9, zo46, zp46_0, zp46_1, zp46_2, zo79, zp79_0, zo83, zp83_0, zp83_1, zp83_2, zo87, zp87_0, zp87_1, zo121, zp121_0, zp121_1, zp121_2, zp121_4, zp121_5, zp121_6, zp121_7, zp121_8, zp121_16, zp121_17, zp121_18, zp121_21, zp121_23, zp121_24, zp121_25, zp121_26, zp121_27, zp121_28, zp121_29, zp121_30, zp121_31, zp121_32, zp121_33, zp121_34, zp79_2, zx2, zx13, zx14, zx15, zx17, zx28, zx29, zx30, zx32, zx43, zx44, zx45, zx47, zx78, zx80, zx84, zx85, zx86, zx88, zx89, zx90, zx99, zx120, zx122, zx123, zx124, zx125, zx126, zx127, zx128, zx129, zx130, zx131, zx132, zx133, zx134, zx135, zx136, zx137, zx138, zx139, zx140, zx141, zx142, zx143, zx144, zx145, zg2, zg17, zg32, zgo3, zgo18, zgo33, zl47, zlo, zlp, zlx, zs90, zso, zsp, zsx, zt99, zto, ztp1, ztp2, ztgo, ztso, ztsp, ztsx, zc0, zi0, zc1, zi1, zc2, zi2, zc3, zi3, zc4, zi4, zc5, zi5, zin, zcl, nI_1, Bool.and_self, Bool.true_and, Bool.and_true, q_rank, d3, dl, e134W]
          exact b305 1 htb1
  rw [← b268]
  by_cases q3 : rk x = 3
  · have d3 := c3.trans (eq_true q3)
    have hts : ts (opN W) = false := by
      cases hh : ts (opN W) with
      | false => rfl
      | true => exact absurd ⟨q3, hh⟩ hs3
    rw [hts] at e134W
    simp (disch := omega) only [fxX10_takesE_b237, am_gd_t, am_lt_e, am_bd_s, bi_0, bi_bz, bz0, bz1, nz2, nz10, nz100, hp_gi, hp_si, ↓reduceIte, if_true, if_false, Bool.true_eq_false, Bool.false_eq_true, eq_self, reduceCtorEq, zo0, zp0_0, zp0_1, zp0_2, zp0_4, zp0_5, zp0_6, zp0_7, zp0_8, zp0_9, zp0_10, zo1, zp1_0, zp1_5, zp1_6, zp1_9, zo16, zp16_0, zp16_5, zp16_6, zp16_9, zo31, zp31_0, zp31_5, zp31_6, zp31_9, zo46, zp46_0, zp46_1, zp46_2, zo79, zp79_0, zo83, zp83_0, zp83_1, zp83_2, zo87, zp87_0, zp87_1, zo121, zp121_0, zp121_1, zp121_2, zp121_4, zp121_5, zp121_6, zp121_7, zp121_8, zp121_16, zp121_17, zp121_18, zp121_21, zp121_23, zp121_24, zp121_25, zp121_26, zp121_27, zp121_28, zp121_29, zp121_30, zp121_31, zp121_32, zp121_33, zp121_34, zp79_2, zx2, zx13, zx14, zx15, zx17, zx28, zx29, zx30, zx32, zx43, zx44, zx45, zx47, zx78, zx80, zx84, zx85, zx86, zx88, zx89, zx90, zx99, zx120, zx122, zx123, zx124, zx125, zx126, zx127, zx128, zx129, zx130, zx131, zx132, zx133, zx134, zx135, zx136, zx137, zx138, zx139, zx140, zx141, zx142, zx143, zx144, zx145, zg2, zg17, zg32, zgo3, zgo18, zgo33, zl47, zlo, zlp, zlx, zs90, zso, zsp, zsx, zt99, zto, ztp1, ztp2, ztgo, ztso, ztsp, ztsx, zc0, zi0, zc1, zi1, zc2, zi2, zc3, zi3, zc4, zi4, zc5, zi5, zin, zcl, nI_1, Bool.and_self, Bool.true_and, Bool.and_true, hsg, d, q_rank, d3, e134W]
  · have d3 := c3.trans (eq_false q3)
    simp (disch := omega) only [fxX10_takesE_b237, am_gd_t, am_lt_e, am_bd_s, bi_0, bi_bz, bz0, bz1, nz2, nz10, nz100, hp_gi, hp_si, ↓reduceIte, if_true, if_false, Bool.true_eq_false, Bool.false_eq_true, eq_self, reduceCtorEq, zo0, zp0_0, zp0_1, zp0_2, zp0_4, zp0_5, zp0_6, zp0_7, zp0_8, zp0_9, zp0_10, zo1, zp1_0, zp1_5, zp1_6, zp1_9, zo16, zp16_0, zp16_5, zp16_6, zp16_9, zo31, zp31_0, zp31_5, zp31_6, zp31_9, zo46, zp46_0, zp46_1, zp46_2, zo79, zp79_0, zo83, zp83_0, zp83_1, zp83_2, zo87, zp87_0, zp87_1, zo121, zp121_0, zp121_1, zp121_2, zp121_4, zp121_5, zp121_6, zp121_7, zp121_8, zp121_16, zp121_17, zp121_18, zp121_21, zp121_23, zp121_24, zp121_25, zp121_26, zp121_27, zp121_28, zp121_29, zp121_30, zp121_31, zp121_32, zp121_33, zp121_34, zp79_2, zx2, zx13, zx14, zx15, zx17, zx28, zx29, zx30, zx32, zx43, zx44, zx45, zx47, zx78, zx80, zx84, zx85, zx86, zx88, zx89, zx90, zx99, zx120, zx122, zx123, zx124, zx125, zx126, zx127, zx128, zx129, zx130, zx131, zx132, zx133, zx134, zx135, zx136, zx137, zx138, zx139, zx140, zx141, zx142, zx143, zx144, zx145, zg2, zg17, zg32, zgo3, zgo18, zgo33, zl47, zlo, zlp, zlx, zs90, zso, zsp, zsx, zt99, zto, ztp1, ztp2, ztgo, ztso, ztsp, ztsx, zc0, zi0, zc1, zi1, zc2, zi2, zc3, zi3, zc4, zi4, zc5, zi5, zin, zcl, nI_1, Bool.and_self, Bool.true_and, Bool.and_true, hsg, d, q_rank, d3]
/-- at the end of the tape -/
theorem st_end {lp n : Nat} {b : Nat → Nat} {M X : Mem} {T : Tk} {W c : List Int32} {o : Nat} {ts : Nat → Bool} (hB : TpR M b n) (h : YM M b n T false W c o ts X) (h0 : T.1 = 0) : ∃ N, (∀ fuel, rn lp (fuel + 1) false W X = some (bi (decide (opN W = 0)), hp lp N)) ∧ FR M T.2.1 N ∧ N 121 19 = nI (stl 0 W c).2.length ∧ N 121 20 = nI o ∧ SR (N 132) (stl 0 W c).2 := by
  obtain ⟨N, vl, ed, rfl, hT, hF, s1, s2, s3, hl, hop, ha, -, hv, hz⟩ := h
  have hn := hB.1
  have hst : T.2.1 ≤ n := by have := hT.1; have := hT.2.1; omega
  obtain ⟨N1, t1, t2, t3, t4⟩ := q_settle (lp := lp) (r := 0) (by omega) (nx := nI T.2.2) (fr := nI T.2.1) (tk := nI T.1) (vl := vl) (ed := ed) (am := nI o) W c am_F N (by unfold am_F; omega) (by omega) s1 s2
  have t1 : fxX10_settle (some 121) (0 : Int32) (hp lp (GM N (nI T.2.2) (nI T.2.1) (nI T.1) vl ed (nI c.length) (nI o) (nI W.length))) = some ((), hp lp (GM N1 (nI T.2.2) (nI T.2.1) (nI T.1) vl ed (nI (stl 0 W c).2.length) (nI o) (nI (stl 0 W c).1.length))) := t1
  refine ⟨GM N1 (nI T.2.2) (nI T.2.1) (nI T.1) vl ed (nI (stl 0 W c).2.length) (nI o) (nI (stl 0 W c).1.length), fun fuel => ?_, ⟨N1, _, _, _, _, _, _, _, rfl, fun z z1 z2 z3 => by rw [t4 z z1, hz z z1 z2 z3]⟩, gm_19 _ _ _ _ _ _ _ _ _, gm_20 _ _ _ _ _ _ _ _ _, t2⟩
  have hz0 : (nI T.1 = 0) = True := by rw [h0]; decide
  have c : (nI (opN W) = 0) = (opN W = 0) := propext (nI_eq (b := 0) (by omega) (by decide))
  unfold rn
  by_cases q : opN W = 0
  · have d := c.trans (eq_true q)
    rw [decide_eq_true q]
    simp only [fxX10_takesE_b28, am_gd_t, am_lt_e, am_bd_s, bi_0, bi_bz, bz0, bz1, nz2, nz10, nz100, hp_gi, hp_si, ↓reduceIte, if_true, if_false, Bool.true_eq_false, Bool.false_eq_true, eq_self, reduceCtorEq, zo0, zp0_0, zp0_1, zp0_2, zp0_4, zp0_5, zp0_6, zp0_7, zp0_8, zp0_9, zp0_10, zo1, zp1_0, zp1_5, zp1_6, zp1_9, zo16, zp16_0, zp16_5, zp16_6, zp16_9, zo31, zp31_0, zp31_5, zp31_6, zp31_9, zo46, zp46_0, zp46_1, zp46_2, zo79, zp79_0, zo83, zp83_0, zp83_1, zp83_2, zo87, zp87_0, zp87_1, zo121, zp121_0, zp121_1, zp121_2, zp121_4, zp121_5, zp121_6, zp121_7, zp121_8, zp121_16, zp121_17, zp121_18, zp121_21, zp121_23, zp121_24, zp121_25, zp121_26, zp121_27, zp121_28, zp121_29, zp121_30, zp121_31, zp121_32, zp121_33, zp121_34, zp79_2, zx2, zx13, zx14, zx15, zx17, zx28, zx29, zx30, zx32, zx43, zx44, zx45, zx47, zx78, zx80, zx84, zx85, zx86, zx88, zx89, zx90, zx99, zx120, zx122, zx123, zx124, zx125, zx126, zx127, zx128, zx129, zx130, zx131, zx132, zx133, zx134, zx135, zx136, zx137, zx138, zx139, zx140, zx141, zx142, zx143, zx144, zx145, zg2, zg17, zg32, zgo3, zgo18, zgo33, zl47, zlo, zlp, zlx, zs90, zso, zsp, zsx, zt99, zto, ztp1, ztp2, ztgo, ztso, ztsp, ztsx, zc0, zi0, zc1, zi1, zc2, zi2, zc3, zi3, zc4, zi4, zc5, zi5, gm_12, hz0, t1, d]
    rfl
  · have d := c.trans (eq_false q)
    rw [decide_eq_false q]
    simp only [fxX10_takesE_b28, am_gd_t, am_lt_e, am_bd_s, bi_0, bi_bz, bz0, bz1, nz2, nz10, nz100, hp_gi, hp_si, ↓reduceIte, if_true, if_false, Bool.true_eq_false, Bool.false_eq_true, eq_self, reduceCtorEq, zo0, zp0_0, zp0_1, zp0_2, zp0_4, zp0_5, zp0_6, zp0_7, zp0_8, zp0_9, zp0_10, zo1, zp1_0, zp1_5, zp1_6, zp1_9, zo16, zp16_0, zp16_5, zp16_6, zp16_9, zo31, zp31_0, zp31_5, zp31_6, zp31_9, zo46, zp46_0, zp46_1, zp46_2, zo79, zp79_0, zo83, zp83_0, zp83_1, zp83_2, zo87, zp87_0, zp87_1, zo121, zp121_0, zp121_1, zp121_2, zp121_4, zp121_5, zp121_6, zp121_7, zp121_8, zp121_16, zp121_17, zp121_18, zp121_21, zp121_23, zp121_24, zp121_25, zp121_26, zp121_27, zp121_28, zp121_29, zp121_30, zp121_31, zp121_32, zp121_33, zp121_34, zp79_2, zx2, zx13, zx14, zx15, zx17, zx28, zx29, zx30, zx32, zx43, zx44, zx45, zx47, zx78, zx80, zx84, zx85, zx86, zx88, zx89, zx90, zx99, zx120, zx122, zx123, zx124, zx125, zx126, zx127, zx128, zx129, zx130, zx131, zx132, zx133, zx134, zx135, zx136, zx137, zx138, zx139, zx140, zx141, zx142, zx143, zx144, zx145, zg2, zg17, zg32, zgo3, zgo18, zgo33, zl47, zlo, zlp, zlx, zs90, zso, zsp, zsx, zt99, zto, ztp1, ztp2, ztgo, ztso, ztsp, ztsx, zc0, zi0, zc1, zi1, zc2, zi2, zc3, zi3, zc4, zi4, zc5, zi5, gm_12, hz0, t1, d]
    rfl
