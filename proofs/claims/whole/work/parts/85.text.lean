/-! ===== text ===== -/
theorem CR_SR {r1 r2 : Nat → Int32} : ∀ {c : List Int32}, CRr r1 c → SR r2 c → ∀ k, k < c.length → crel (r1 k) (r2 k) := by
  intro c
  induction c with
  | nil => intro _ _ k hk; exact absurd hk (Nat.not_lt_zero k)
  | cons x c ih =>
    intro h1 h2 k hk
    rw [List.length_cons] at hk
    by_cases q : k = c.length
    · rw [q, h2.1]; exact h1.1
    · exact ih h1.2 h2.2 k (by omega)
theorem SR_mem {r : Nat → Int32} : ∀ {c : List Int32}, SR r c → ∀ k, k < c.length → r k ∈ c := by
  intro c
  induction c with
  | nil => intro _ k hk; exact absurd hk (Nat.not_lt_zero k)
  | cons x c ih =>
    intro h k hk
    rw [List.length_cons] at hk
    by_cases q : k = c.length
    · rw [q, h.1]; exact List.mem_cons_self
    · exact List.mem_cons_of_mem _ (ih h.2 k (by omega))
/-- a guild whose laws, as far as it counts them, stay -/
theorem RC_congr2 {M M' : Mem} {gb : Nat} {g : Nat → Int32} (h1 : ∀ k, gb ≤ k → k ≤ gb + 14 → M' k = M k) (h2 : ∀ t, t < cn (g 5) → M' (48 + 2 * t) = M (48 + 2 * t) ∧ M' (49 + 2 * t) = M (49 + 2 * t)) (h : RC M gb g) : RC M' gb g := by
  obtain ⟨a1, a2, a3, a4, a5, a6⟩ := h
  refine ⟨?_, fun i hi j hj => ?_, fun i hi => ?_, ⟨fun t ht => ?_, fun key hk => ?_⟩, a5, a6⟩
  · unfold RCs at a1 ⊢
    rw [h1 gb (by omega) (by omega)]
    exact a1
  · have := a5.n.1
    rw [h1 (gb + 2 + i) (by omega) (by omega)]
    exact a2 i hi j hj
  · have := a3 i hi
    rw [h1 (gb + 12) (by omega) (by omega), h1 (gb + 13) (by omega) (by omega)]
    exact this
  · exact TR_congr (h2 t ht).1 (h2 t ht).2 (a4.1 t ht)
  · rw [h1 (gb + 14) (by omega) (by omega)]
    exact a4.2 key hk
theorem Inv.text {lp t : Nat} {M M' : Mem} (hI : Inv lp M) (ht : t = cn (M 122 5)) (hf : ∀ z, z ≠ 1 → z ≠ 15 → z ≠ 79 → z ≠ 48 + 2 * t → z ≠ 49 + 2 * t → z ≠ 121 → z ≠ 122 → z ≠ 132 → z ≠ 133 → z ≠ 134 → M' z = M z) (h79 : M' 79 1 = 0) (h9 : M' 121 9 = 0) (h3 : M' 121 3 = M 121 3) (h35 : M' 121 35 = M 121 35) (hc : RC M' 1 (M' 122)) (hd : cn (M' 122 2) ≤ 9999) (h5 : cn (M 122 5) ≤ cn (M' 122 5)) : Inv (48 + 2 * t) M' := by
  obtain ⟨⟨a1, a0⟩, a2, a3, a4, a5, a6, a7, a8⟩ := hI
  have h14 := a1.2.2.2.2.1.t.1
  have e : ∀ z, z ≠ 1 → z ≠ 15 → z ≠ 79 → ¬ (48 ≤ z ∧ z ≤ 77) → z ≠ 121 → z ≠ 122 → z ≠ 132 → z ≠ 133 → z ≠ 134 → M' z = M z := fun z z1 z2 z3 z4 z5 z6 z7 z8 z9 => hf z z1 z2 z3 (by omega) (by omega) z5 z6 z7 z8 z9
  have e' : ∀ z, 16 ≤ z → z < 121 → z ≠ 79 → ¬ (48 ≤ z ∧ z ≤ 77) → M' z = M z := fun z z1 z2 z3 z4 => e z (by omega) (by omega) z3 z4 (by omega) (by omega) (by omega) (by omega) (by omega)
  have e'' : ∀ z, 135 ≤ z → M' z = M z := fun z z1 => e z (by omega) (by omega) (by omega) (by omega) (by omega) (by omega) (by omega) (by omega) (by omega)
  have e0 : M' 0 = M 0 := e 0 (by decide) (by decide) (by decide) (by decide) (by decide) (by decide) (by decide) (by decide) (by decide)
  have e123 : M' 123 = M 123 := e 123 (by decide) (by decide) (by decide) (by decide) (by decide) (by decide) (by decide) (by decide) (by decide)
  refine ⟨⟨hc, hd⟩, ⟨by rw [e0, h3]; exact a2.1, ?_⟩, ⟨0, by omega, h79, h9, fun i hi => by omega⟩, RW_congr (e' 120 (by omega) (by omega) (by omega) (by omega)) (e'' 145 (by omega)) (by rw [e0]) h35 a4, RS_congr (fun k k1 k2 => e' k (by omega) (by omega) (by omega) (by omega)) (fun k k1 k2 => e'' k (by omega)) a5, RL_congr (fun k k1 k2 => e' k (by omega) (by omega) (by omega) (by omega)) (fun k k1 k2 => e'' k (by omega)) a6, RX_congr (e 130 (by decide) (by decide) (by decide) (by decide) (by decide) (by decide) (by decide) (by decide) (by decide)) (e 131 (by decide) (by decide) (by decide) (by decide) (by decide) (by decide) (by decide) (by decide) (by decide)) (e' 88 (by omega) (by omega) (by omega) (by omega)) a7, Or.inl ⟨t, by omega, rfl⟩⟩
  rw [h3]
  rcases a2.2 with q | ⟨q1, q2, q3, q4⟩
  · exact Or.inl q
  · rw [e123]
    refine Or.inr ⟨q1, RC_congr2 (fun k k1 k2 => e' k (by omega) (by omega) (by omega) (by omega)) (fun t' ht' => ?_) q2, Nat.le_trans q3 h5, q4⟩
    exact ⟨hf _ (by omega) (by omega) (by omega) (by omega) (by omega) (by omega) (by omega) (by omega) (by omega) (by omega), hf _ (by omega) (by omega) (by omega) (by omega) (by omega) (by omega) (by omega) (by omega) (by omega) (by omega)⟩
/-- one text more -/
def txG (g : Nat → Int32) (t K len : Nat) (o : Int32) (code : Nat → Int32) (j : Nat) : Int32 := if j = 5 then nI (t + 1) else if 104 + 96 * t ≤ j ∧ j < 104 + 96 * t + len then code (j - (104 + 96 * t)) else if j = 77 + 2 * t then o else if j = 76 + 2 * t then nI (1000 * K + len) else g j
theorem RC_text {M M' : Mem} {g code : Nat → Int32} {t K : Nat} {c : List Int32} {o : Nat} (hR : RC M 1 g) (et : g 5 = nI t) (ht : t < 14) (hK : K < 3) (hlen : c.length ≤ 96) (ho : o ≤ 96) (hS : SR code c) (hG : Gd K c 1) (h1 : M' 1 = up1 (M 1) 8 (nI (t + 1))) (h15 : M' 15 = up1 (M 15) K (nI t)) (hl0 : M' (48 + 2 * t) 0 = nI K) (hl1 : M' (48 + 2 * t) 1 = nI o) (hl3 : M' (48 + 2 * t) 3 = nI c.length) (hlc : CRr (M' (49 + 2 * t)) c) (hf : ∀ z, 2 ≤ z → z ≤ 14 → M' z = M z) (hf2 : ∀ t', t' < t → M' (48 + 2 * t') = M (48 + 2 * t') ∧ M' (49 + 2 * t') = M (49 + 2 * t')) : RC M' 1 (txG g t K c.length (nI o) code) := by
  obtain ⟨⟨s1, s2, s3, s4, s5, s6⟩, a2, a3, a4, a5, a6⟩ := hR
  have ecn : cn (g 5) = t := by rw [et, cn_nI (by omega)]
  have hn := a5.n.1
  have hw := a5.w.1
  have lo : ∀ j, j < 76 → j ≠ 5 → txG g t K c.length (nI o) code j = g j := fun j hj h5 => by
    unfold txG
    rw [if_neg h5, if_neg (by omega), if_neg (by omega), if_neg (by omega)]
  have l5 : txG g t K c.length (nI o) code 5 = nI (t + 1) := by unfold txG; rw [if_pos rfl]
  have l76 : txG g t K c.length (nI o) code (76 + 2 * t) = nI (1000 * K + c.length) := by
    unfold txG
    rw [if_neg (by omega), if_neg (by omega), if_neg (by omega), if_pos rfl]
  have l77 : txG g t K c.length (nI o) code (77 + 2 * t) = nI o := by
    unfold txG
    rw [if_neg (by omega), if_neg (by omega), if_pos rfl]
  have lc : ∀ k, k < c.length → txG g t K c.length (nI o) code (104 + 96 * t + k) = code k := fun k hk => by
    unfold txG
    rw [if_neg (by omega), if_pos (by omega)]
    congr 1; omega
  have lh : ∀ t', t' < t → txG g t K c.length (nI o) code (76 + 2 * t') = g (76 + 2 * t') ∧ txG g t K c.length (nI o) code (77 + 2 * t') = g (77 + 2 * t') ∧ ∀ k, k < 96 → txG g t K c.length (nI o) code (104 + 96 * t' + k) = g (104 + 96 * t' + k) := fun t' ht' => by
    refine ⟨?_, ?_, fun k hk => ?_⟩
    · unfold txG; rw [if_neg (by omega), if_neg (by omega), if_neg (by omega), if_neg (by omega)]
    · unfold txG; rw [if_neg (by omega), if_neg (by omega), if_neg (by omega), if_neg (by omega)]
    · unfold txG; rw [if_neg (by omega), if_neg (by omega), if_neg (by omega), if_neg (by omega)]
  have hdiv : nI (1000 * K + c.length) / 1000 = nI K := by
    rw [show (1000 : Int32) = nI 1000 from rfl, pk_div (by omega) (by decide) (by decide)]
    congr 1; omega
  refine ⟨?_, fun i hi j hj => ?_, fun i hi => ?_, ⟨fun t' ht' => ?_, fun key hk => ?_⟩, ?_, fun i hi j hj => ?_⟩
  · unfold RCs
    rw [h1, l5, lo 0 (by decide) (by decide), lo 1 (by decide) (by decide), lo 2 (by decide) (by decide), lo 3 (by decide) (by decide), lo 4 (by decide) (by decide)]
    exact ⟨s1, s2, s3, s4, s5, up1_eq _ _ _⟩
  · rw [lo 1 (by decide) (by decide)] at hi
    rw [hf _ (by omega) (by omega), lo _ (by omega) (by omega)]
    exact a2 i hi j hj
  · rw [lo 4 (by decide) (by decide)] at hi
    rw [hf _ (by omega) (by omega), hf _ (by omega) (by omega), lo _ (by omega) (by omega)]
    exact a3 i hi
  · rw [l5, cn_nI (by omega)] at ht'
    by_cases q : t' = t
    · subst q
      have hcc : ∀ k, k < c.length → (fun k => txG g t' K c.length (nI o) code (104 + 96 * t' + k)) k = code k := fun k hk => lc k hk
      refine ⟨K, c.length, o, hK, hlen, ho, l76, l77, hl0, hl1, hl3, fun k hk => ?_, ?_, fun k hk i hi => ?_⟩
      · rw [lc k hk]
        exact CR_SR hlc hS k hk
      · rw [pdep_g c.length hcc, pdl_eq hS]
        exact hG.1
      · dsimp only at hi
        rw [lc k hk] at hi
        exact hG.2 _ (SR_mem hS k hk) i hi
    · have ht2 : t' < t := by omega
      obtain ⟨e1, e2, e3⟩ := lh t' ht2
      obtain ⟨f1, f2⟩ := hf2 t' ht2
      obtain ⟨K', n', o', b1, b2, b3, b4, b5, b6, b7, b8, b9, b10, b11⟩ := a4.1 t' (by omega)
      have hcc : ∀ k, k < n' → (fun k => txG g t K c.length (nI o) code (104 + 96 * t' + k)) k = (fun k => g (104 + 96 * t' + k)) k := fun k hk => e3 k (by omega)
      refine ⟨K', n', o', b1, b2, b3, by rw [e1]; exact b4, by rw [e2]; exact b5, by rw [f1]; exact b6, by rw [f1]; exact b7, by rw [f1]; exact b8, fun k hk => by rw [f2, e3 k (by omega)]; exact b9 k hk, ?_, fun k hk i hi => b11 k hk i ((hcc k hk).symm.trans hi)⟩
      rw [pdep_g n' hcc]
      exact b10
  · rw [l5, cn_nI (by omega), show (1 : Nat) + 14 = 15 from rfl, h15]
    have hlast : ∀ k, k ≤ t → lastK (txG g t K c.length (nI o) code) (nI key) k = lastK g (nI key) k := by
      intro k
      induction k with
      | zero => intro _; rfl
      | succ k ih =>
        intro hk'
        unfold lastK
        rw [(lh k (by omega)).1, ih (by omega)]
    unfold lastK
    rw [l76, hdiv]
    by_cases q : K = key
    · subst q
      rw [if_pos rfl, up1_eq]
    · rw [if_neg (fun x => q ((nI_eq (by omega) (by omega)).mp x)), up1_ne (Ne.symm q), hlast t (Nat.le_refl _)]
      have := a4.2 key hk
      rw [ecn] at this
      exact this
  · obtain ⟨v1, v2, v3, v4, v5⟩ := a5
    refine ⟨?_, ?_, ?_, ?_, ⟨t + 1, by omega, l5⟩⟩
    · rw [lo 1 (by decide) (by decide)]; exact v1
    · rw [lo 2 (by decide) (by decide)]; exact v2
    · rw [lo 3 (by decide) (by decide)]; exact v3
    · rw [lo 4 (by decide) (by decide)]; exact v4
  · rw [lo 1 (by decide) (by decide)] at hi
    unfold mg
    rw [lo _ (by omega) (by omega)]
    exact a6 i hi j hj
theorem text_cp {lp t len : Nat} (ht : t < 14) (hlen : len ≤ 96) : ∀ k i fuel (Z : Mem), i + k = len → k < fuel → Z 121 19 = nI len → ∃ Z', fxX10_text_b115 fuel (some 121) (nI t) (nI i) (hp lp Z) = some (nI t, hp lp Z') ∧ (∀ z, z ≠ 122 → Z' z = Z z) ∧ ∀ j, Z' 122 j = if j = 5 then Z 122 5 + 1 else if 104 + 96 * t + i ≤ j ∧ j < 104 + 96 * t + len then Z 132 (j - (104 + 96 * t)) else Z 122 j := by
  intro k
  induction k with
  | zero =>
    intro i fuel Z hi hf e19
    obtain ⟨fuel, rfl⟩ : ∃ f, fuel = f + 1 := ⟨fuel - 1, by omega⟩
    obtain rfl : i = len := by omega
    refine ⟨am_up Z 122 5 (Z 122 5 + 1), ?_, fun z hz => am_up_ne hz, fun j => ?_⟩
    · simp (disch := omega) only [fxX10_text_b115, am_gd_t, am_lt_e, am_bd_s, bi_0, bi_bz, bz0, bz1, nz2, nz10, nz100, hp_gi, hp_si, ↓reduceIte, if_true, if_false, Bool.true_eq_false, Bool.false_eq_true, eq_self, reduceCtorEq, zo0, zp0_0, zp0_1, zp0_2, zp0_4, zp0_5, zp0_6, zp0_7, zp0_8, zp0_9, zp0_10, zo1, zp1_0, zp1_5, zp1_6, zp1_9, zo16, zp16_0, zp16_5, zp16_6, zp16_9, zo31, zp31_0, zp31_5, zp31_6, zp31_9, zo46, zp46_0, zp46_1, zp46_2, zo79, zp79_0, zo83, zp83_0, zp83_1, zp83_2, zo87, zp87_0, zp87_1, zo121, zp121_0, zp121_1, zp121_2, zp121_4, zp121_5, zp121_6, zp121_7, zp121_8, zp121_16, zp121_17, zp121_18, zp121_21, zp121_23, zp121_24, zp121_25, zp121_26, zp121_27, zp121_28, zp121_29, zp121_30, zp121_31, zp121_32, zp121_33, zp121_34, zp79_2, zx2, zx13, zx14, zx15, zx17, zx28, zx29, zx30, zx32, zx43, zx44, zx45, zx47, zx78, zx80, zx84, zx85, zx86, zx88, zx89, zx90, zx99, zx120, zx122, zx123, zx124, zx125, zx126, zx127, zx128, zx129, zx130, zx131, zx132, zx133, zx134, zx135, zx136, zx137, zx138, zx139, zx140, zx141, zx142, zx143, zx144, zx145, zg2, zg17, zg32, zgo3, zgo18, zgo33, zl47, zlo, zlp, zlx, zs90, zso, zsp, zsx, zt99, zto, ztp1, ztp2, ztgo, ztso, ztsp, ztsx, zc0, zi0, zc1, zi1, zc2, zi2, zc3, zi3, zc4, zi4, zc5, zi5, e19, zle']
    · rw [up_row]
      unfold up1
      by_cases q : j = 5
      · rw [if_pos q, if_pos q]
      · rw [if_neg q, if_neg q, if_neg (by omega)]
  | succ k ih =>
    intro i fuel Z hi hf e19
    obtain ⟨fuel, rfl⟩ : ∃ f, fuel = f + 1 := ⟨fuel - 1, by omega⟩
    obtain ⟨Z', p1, p2, p3⟩ := ih (i + 1) fuel (am_up Z 122 (104 + 96 * t + i) (Z 132 i)) (by omega) (by omega) (by rw [am_up_ne (by decide)]; exact e19)
    refine ⟨Z', ?_, fun z hz => by rw [p2 z hz, am_up_ne hz], fun j => ?_⟩
    · rw [← p1]
      simp (disch := omega) only [fxX10_text_b115, am_gd_t, am_lt_e, am_bd_s, bi_0, bi_bz, bz0, bz1, nz2, nz10, nz100, hp_gi, hp_si, ↓reduceIte, if_true, if_false, Bool.true_eq_false, Bool.false_eq_true, eq_self, reduceCtorEq, zo0, zp0_0, zp0_1, zp0_2, zp0_4, zp0_5, zp0_6, zp0_7, zp0_8, zp0_9, zp0_10, zo1, zp1_0, zp1_5, zp1_6, zp1_9, zo16, zp16_0, zp16_5, zp16_6, zp16_9, zo31, zp31_0, zp31_5, zp31_6, zp31_9, zo46, zp46_0, zp46_1, zp46_2, zo79, zp79_0, zo83, zp83_0, zp83_1, zp83_2, zo87, zp87_0, zp87_1, zo121, zp121_0, zp121_1, zp121_2, zp121_4, zp121_5, zp121_6, zp121_7, zp121_8, zp121_16, zp121_17, zp121_18, zp121_21, zp121_23, zp121_24, zp121_25, zp121_26, zp121_27, zp121_28, zp121_29, zp121_30, zp121_31, zp121_32, zp121_33, zp121_34, zp79_2, zx2, zx13, zx14, zx15, zx17, zx28, zx29, zx30, zx32, zx43, zx44, zx45, zx47, zx78, zx80, zx84, zx85, zx86, zx88, zx89, zx90, zx99, zx120, zx122, zx123, zx124, zx125, zx126, zx127, zx128, zx129, zx130, zx131, zx132, zx133, zx134, zx135, zx136, zx137, zx138, zx139, zx140, zx141, zx142, zx143, zx144, zx145, zg2, zg17, zg32, zgo3, zgo18, zgo33, zl47, zlo, zlp, zlx, zs90, zso, zsp, zsx, zt99, zto, ztp1, ztp2, ztgo, ztso, ztsp, ztsx, zc0, zi0, zc1, zi1, zc2, zi2, zc3, zi3, zc4, zi4, zc5, zi5, zin, zcl, nI_1, Bool.and_self, Bool.true_and, Bool.and_true, e19, zle, nI104]
    · rw [p3 j, up_row, am_up_ne (by decide)]
      by_cases q : j = 5
      · rw [if_pos q, if_pos q, up1_ne (by omega)]
      · rw [if_neg q, if_neg q]
        by_cases q2 : j = 104 + 96 * t + i
        · rw [if_neg (by omega), if_pos (by omega), q2, up1_eq]
          congr 1; omega
        · rw [up1_ne q2]
          by_cases q3 : 104 + 96 * t + (i + 1) ≤ j ∧ j < 104 + 96 * t + len
          · rw [if_pos q3, if_pos (by omega)]
          · rw [if_neg q3, if_neg (by omega)]
theorem P_text : Pair (fxX9_text (some 0)) (fxX10_text (some 121)) := by
  intro lp M hI
  have hR := hI.1.1
  obtain ⟨h14, et⟩ := hR.2.2.2.2.1.t
  generalize htt : cn (M 122 5) = t at *
  have e18 : M 1 8 = nI t := hR.1.2.2.2.2.2.trans et
  obtain ⟨n, hn, c1, c2, c3⟩ := hI.2.2.1
  generalize hb : (fun i => cn (M 80 i)) = b
  have hbi : ∀ i, i < n → M 80 i = nI (b i) ∧ M 129 i = nI (b i) ∧ b i ≤ 255 := fun i hi => by
    obtain ⟨v, v1, v2, v3⟩ := c3 i hi
    have : b i = v := by rw [← hb]; show cn (M 80 i) = v; rw [v2, cn_nI (by omega)]
    rw [this]
    exact ⟨v2, v3, v1⟩
  have hC : TpC M b n := ⟨hn, c1, fun i hi => ⟨(hbi i hi).1, (hbi i hi).2.2⟩⟩
  obtain ⟨rF, rS⟩ := q_read (lp := lp) (t := t) (b := b) (M := M) (by omega) hC
  have mk : ∀ Mc : Mem, (∀ z, z ≠ 1 → z ≠ 15 → z ≠ 79 → z ≠ 48 + 2 * t → z ≠ 49 + 2 * t → Mc z = M z) → TpR Mc b n ∧ (∀ k, k < 12 → Mc 130 k = keysL.getD k 0) ∧ (∀ k, k < 4 → Mc 131 k = nI (4 * k)) := by
    intro Mc hMc
    have e121 := hMc 121 (by decide) (by decide) (by decide) (by omega) (by omega)
    have e129 := hMc 129 (by decide) (by decide) (by decide) (by omega) (by omega)
    have e130 := hMc 130 (by decide) (by decide) (by decide) (by omega) (by omega)
    have e131 := hMc 131 (by decide) (by decide) (by decide) (by omega) (by omega)
    refine ⟨⟨hn, by rw [e121]; exact c2, fun i hi => by rw [e129]; exact (hbi i hi).2⟩, ?_, ?_⟩
    · rw [e130]; exact hI.2.2.2.2.2.2.1.1
    · rw [e131]; exact hI.2.2.2.2.2.2.1.2.1
  -- the reference's array stays where no text is added
  have keepR : ∀ Mr : Mem, (∀ z, z ≠ 79 → z ≠ 48 + 2 * t → z ≠ 49 + 2 * t → z ≠ 121 → z ≠ 132 → z ≠ 133 → z ≠ 134 → Mr z = M z) → Mr 79 1 = 0 → Mr 121 9 = 0 → Mr 121 3 = M 121 3 → Mr 121 35 = M 121 35 → Inv (48 + 2 * t) Mr := by
    intro Mr h1 h2 h3 h4 h5
    have e122 : Mr 122 = M 122 := h1 122 (by decide) (by omega) (by omega) (by decide) (by decide) (by decide) (by decide)
    refine hI.text htt.symm (fun z z1 z2 z3 z4 z5 z6 z7 z8 z9 z10 => h1 z z3 z4 z5 z6 z8 z9 z10) h2 h3 h4 h5 ?_ (by rw [e122]; exact hI.1.2) (by rw [e122]; exact Nat.le_refl _)
    rw [e122]
    refine RC_congr2 (fun k k1 k2 => h1 k (by omega) (by omega) (by omega) (by omega) (by omega) (by omega) (by omega)) (fun t' ht' => ?_) hR
    exact ⟨h1 _ (by omega) (by omega) (by omega) (by omega) (by omega) (by omega) (by omega), h1 _ (by omega) (by omega) (by omega) (by omega) (by omega) (by omega) (by omega)⟩
  cases hrd : rdP b n with
  | inl p =>
    obtain ⟨N, f, s, st, e, r1, r2, r3⟩ := rF p hrd
    generalize hMc : am_up (TM N f s st e) 79 1 0 = Mc
    have rMc : ∀ z, z ≠ 79 → z ≠ 48 + 2 * t → z ≠ 49 + 2 * t → Mc z = M z := fun z z1 z2 z3 => by rw [← hMc, am_up_ne z1, tm_o z1, r2 z z2 z3]
    obtain ⟨hTR, hx1, hx2⟩ := mk Mc (fun z z1 z2 z3 z4 z5 => rMc z z3 z4 z5)
    obtain ⟨Y, y1, y2, y3⟩ := (q_mt (lp := 48 + 2 * t) hTR hx1 hx2).1 p hrd
    obtain ⟨f1, f2, f3, f4⟩ := y3
    refine ⟨-100 - nI p, 48 + 2 * t, Mc, am_up Y 121 9 0, ?_, ?_, ?_⟩
    · have hnn : (nI p < 0) = False := nlt0 (by omega)
      simp (disch := omega) only [fxX9_text, q_lawOf, am_gd_t, am_lt_e, am_bd_s, bi_0, bi_bz, bz0, bz1, nz2, nz10, nz100, hp_gi, hp_si, ↓reduceIte, if_true, if_false, Bool.true_eq_false, Bool.false_eq_true, eq_self, reduceCtorEq, zo0, zp0_0, zp0_1, zp0_2, zp0_4, zp0_5, zp0_6, zp0_7, zp0_8, zp0_9, zp0_10, zo1, zp1_0, zp1_5, zp1_6, zp1_9, zo16, zp16_0, zp16_5, zp16_6, zp16_9, zo31, zp31_0, zp31_5, zp31_6, zp31_9, zo46, zp46_0, zp46_1, zp46_2, zo79, zp79_0, zo83, zp83_0, zp83_1, zp83_2, zo87, zp87_0, zp87_1, zo121, zp121_0, zp121_1, zp121_2, zp121_4, zp121_5, zp121_6, zp121_7, zp121_8, zp121_16, zp121_17, zp121_18, zp121_21, zp121_23, zp121_24, zp121_25, zp121_26, zp121_27, zp121_28, zp121_29, zp121_30, zp121_31, zp121_32, zp121_33, zp121_34, zp79_2, zx2, zx13, zx14, zx15, zx17, zx28, zx29, zx30, zx32, zx43, zx44, zx45, zx47, zx78, zx80, zx84, zx85, zx86, zx88, zx89, zx90, zx99, zx120, zx122, zx123, zx124, zx125, zx126, zx127, zx128, zx129, zx130, zx131, zx132, zx133, zx134, zx135, zx136, zx137, zx138, zx139, zx140, zx141, zx142, zx143, zx144, zx145, zg2, zg17, zg32, zgo3, zgo18, zgo33, zl47, zlo, zlp, zlx, zs90, zso, zsp, zsx, zt99, zto, ztp1, ztp2, ztgo, ztso, ztsp, ztsx, zc0, zi0, zc1, zi1, zc2, zi2, zc3, zi3, zc4, zi4, zc5, zi5, zin, zcl, nI_1, Bool.and_self, Bool.true_and, Bool.and_true, e18, r1, hMc, hnn]
    · rw [y1]
      have e11 : am_up Y 121 9 0 121 11 = nI p := by rw [up_nj (by decide)]; exact y2
      simp only [fxX10_text_b33, am_gd_t, am_lt_e, am_bd_s, bi_0, bi_bz, bz0, bz1, nz2, nz10, nz100, hp_gi, hp_si, ↓reduceIte, if_true, if_false, Bool.true_eq_false, Bool.false_eq_true, eq_self, reduceCtorEq, zo0, zp0_0, zp0_1, zp0_2, zp0_4, zp0_5, zp0_6, zp0_7, zp0_8, zp0_9, zp0_10, zo1, zp1_0, zp1_5, zp1_6, zp1_9, zo16, zp16_0, zp16_5, zp16_6, zp16_9, zo31, zp31_0, zp31_5, zp31_6, zp31_9, zo46, zp46_0, zp46_1, zp46_2, zo79, zp79_0, zo83, zp83_0, zp83_1, zp83_2, zo87, zp87_0, zp87_1, zo121, zp121_0, zp121_1, zp121_2, zp121_4, zp121_5, zp121_6, zp121_7, zp121_8, zp121_16, zp121_17, zp121_18, zp121_21, zp121_23, zp121_24, zp121_25, zp121_26, zp121_27, zp121_28, zp121_29, zp121_30, zp121_31, zp121_32, zp121_33, zp121_34, zp79_2, zx2, zx13, zx14, zx15, zx17, zx28, zx29, zx30, zx32, zx43, zx44, zx45, zx47, zx78, zx80, zx84, zx85, zx86, zx88, zx89, zx90, zx99, zx120, zx122, zx123, zx124, zx125, zx126, zx127, zx128, zx129, zx130, zx131, zx132, zx133, zx134, zx135, zx136, zx137, zx138, zx139, zx140, zx141, zx142, zx143, zx144, zx145, zg2, zg17, zg32, zgo3, zgo18, zgo33, zl47, zlo, zlp, zlx, zs90, zso, zsp, zsx, zt99, zto, ztp1, ztp2, ztgo, ztso, ztsp, ztsx, zc0, zi0, zc1, zi1, zc2, zi2, zc3, zi3, zc4, zi4, zc5, zi5, e11]
    · refine keepR _ (fun z z1 z2 z3 z4 z5 z6 z7 => by rw [am_up_ne z4, f1 z z4 z5 z6 z7, rMc z z1 z2 z3]) ?_ (up_eq _ _ _ _) ?_ ?_
      · rw [am_up_ne (by decide), f1 79 (by decide) (by decide) (by decide) (by decide), ← hMc, up_eq]
      · rw [up_nj (by decide), f2, rMc 121 (by decide) (by omega) (by omega)]
      · rw [up_nj (by decide), f4, rMc 121 (by decide) (by omega) (by omega)]
  | inr kco =>
    obtain ⟨K, c, o⟩ := kco
    obtain ⟨N, f, s, st, e, r1, r2, hK, hlen, n0, n1, n3, ncr⟩ := rS K c o hrd
    obtain ⟨hG, hoc⟩ := rd_ok hrd
    by_cases h14' : t = 14
    · generalize hMc : am_up (TM N f s st e) 79 1 0 = Mc
      have rMc : ∀ z, z ≠ 79 → z ≠ 48 + 2 * t → z ≠ 49 + 2 * t → Mc z = M z := fun z z1 z2 z3 => by rw [← hMc, am_up_ne z1, tm_o z1, r2 z z2 z3]
      obtain ⟨hTR, hx1, hx2⟩ := mk Mc (fun z z1 z2 z3 z4 z5 => rMc z z3 z4 z5)
      obtain ⟨Y, y1, y15, y19, y20, ysr, y3⟩ := (q_mt (lp := 48 + 2 * t) hTR hx1 hx2).2 K c o hrd
      obtain ⟨f1, f2, f3, f4⟩ := y3
      refine ⟨-1000000003, 48 + 2 * t, Mc, am_up Y 121 9 0, ?_, ?_, ?_⟩
      · have hnn : ((-1 : Int32) < 0) = True := by decide
        have hlt : (nI t < (14 : Int32)) = False := by rw [h14']; decide
        have e8 : Mc 1 8 = nI t := by rw [rMc 1 (by decide) (by omega) (by omega)]; exact e18
        simp (disch := omega) only [fxX9_text, fxX2_addText, q_lawOf, am_gd_t, am_lt_e, am_bd_s, bi_0, bi_bz, bz0, bz1, nz2, nz10, nz100, hp_gi, hp_si, ↓reduceIte, if_true, if_false, Bool.true_eq_false, Bool.false_eq_true, eq_self, reduceCtorEq, zo0, zp0_0, zp0_1, zp0_2, zp0_4, zp0_5, zp0_6, zp0_7, zp0_8, zp0_9, zp0_10, zo1, zp1_0, zp1_5, zp1_6, zp1_9, zo16, zp16_0, zp16_5, zp16_6, zp16_9, zo31, zp31_0, zp31_5, zp31_6, zp31_9, zo46, zp46_0, zp46_1, zp46_2, zo79, zp79_0, zo83, zp83_0, zp83_1, zp83_2, zo87, zp87_0, zp87_1, zo121, zp121_0, zp121_1, zp121_2, zp121_4, zp121_5, zp121_6, zp121_7, zp121_8, zp121_16, zp121_17, zp121_18, zp121_21, zp121_23, zp121_24, zp121_25, zp121_26, zp121_27, zp121_28, zp121_29, zp121_30, zp121_31, zp121_32, zp121_33, zp121_34, zp79_2, zx2, zx13, zx14, zx15, zx17, zx28, zx29, zx30, zx32, zx43, zx44, zx45, zx47, zx78, zx80, zx84, zx85, zx86, zx88, zx89, zx90, zx99, zx120, zx122, zx123, zx124, zx125, zx126, zx127, zx128, zx129, zx130, zx131, zx132, zx133, zx134, zx135, zx136, zx137, zx138, zx139, zx140, zx141, zx142, zx143, zx144, zx145, zg2, zg17, zg32, zgo3, zgo18, zgo33, zl47, zlo, zlp, zlx, zs90, zso, zsp, zsx, zt99, zto, ztp1, ztp2, ztgo, ztso, ztsp, ztsx, zc0, zi0, zc1, zi1, zc2, zi2, zc3, zi3, zc4, zi4, zc5, zi5, zin, zcl, nI_1, Bool.and_self, Bool.true_and, Bool.and_true, e18, r1, hMc, hnn, e8, hlt]
      · rw [y1]
        have e5 : am_up Y 121 9 0 122 5 = 14 := by rw [am_up_ne (by decide), f1 122 (by decide) (by decide) (by decide) (by decide), rMc 122 (by decide) (by omega) (by omega), et, h14']; rfl
        simp only [fxX10_text_b33, am_gd_t, am_lt_e, am_bd_s, bi_0, bi_bz, bz0, bz1, nz2, nz10, nz100, hp_gi, hp_si, ↓reduceIte, if_true, if_false, Bool.true_eq_false, Bool.false_eq_true, eq_self, reduceCtorEq, zo0, zp0_0, zp0_1, zp0_2, zp0_4, zp0_5, zp0_6, zp0_7, zp0_8, zp0_9, zp0_10, zo1, zp1_0, zp1_5, zp1_6, zp1_9, zo16, zp16_0, zp16_5, zp16_6, zp16_9, zo31, zp31_0, zp31_5, zp31_6, zp31_9, zo46, zp46_0, zp46_1, zp46_2, zo79, zp79_0, zo83, zp83_0, zp83_1, zp83_2, zo87, zp87_0, zp87_1, zo121, zp121_0, zp121_1, zp121_2, zp121_4, zp121_5, zp121_6, zp121_7, zp121_8, zp121_16, zp121_17, zp121_18, zp121_21, zp121_23, zp121_24, zp121_25, zp121_26, zp121_27, zp121_28, zp121_29, zp121_30, zp121_31, zp121_32, zp121_33, zp121_34, zp79_2, zx2, zx13, zx14, zx15, zx17, zx28, zx29, zx30, zx32, zx43, zx44, zx45, zx47, zx78, zx80, zx84, zx85, zx86, zx88, zx89, zx90, zx99, zx120, zx122, zx123, zx124, zx125, zx126, zx127, zx128, zx129, zx130, zx131, zx132, zx133, zx134, zx135, zx136, zx137, zx138, zx139, zx140, zx141, zx142, zx143, zx144, zx145, zg2, zg17, zg32, zgo3, zgo18, zgo33, zl47, zlo, zlp, zlx, zs90, zso, zsp, zsx, zt99, zto, ztp1, ztp2, ztgo, ztso, ztsp, ztsx, zc0, zi0, zc1, zi1, zc2, zi2, zc3, zi3, zc4, zi4, zc5, zi5, one0, e5]
      · refine keepR _ (fun z z1 z2 z3 z4 z5 z6 z7 => by rw [am_up_ne z4, f1 z z4 z5 z6 z7, rMc z z1 z2 z3]) ?_ (up_eq _ _ _ _) ?_ ?_
        · rw [am_up_ne (by decide), f1 79 (by decide) (by decide) (by decide) (by decide), ← hMc, up_eq]
        · rw [up_nj (by decide), f2, rMc 121 (by decide) (by omega) (by omega)]
        · rw [up_nj (by decide), f4, rMc 121 (by decide) (by omega) (by omega)]
    · have ht : t < 14 := by omega
      generalize hM0 : am_up (TM N f s st e) 79 1 0 = M0
      have r0 : ∀ z, z ≠ 79 → z ≠ 48 + 2 * t → z ≠ 49 + 2 * t → M0 z = M z := fun z z1 z2 z3 => by rw [← hM0, am_up_ne z1, tm_o z1, r2 z z2 z3]
      have r0N : ∀ z, z ≠ 79 → M0 z = N z := fun z z1 => by rw [← hM0, am_up_ne z1, tm_o z1]
      generalize hMc : am_up (am_up M0 15 K (nI t)) 1 8 (nI (t + 1)) = Mc
      have rM0 : ∀ z, z ≠ 1 → z ≠ 15 → Mc z = M0 z := fun z z1 z2 => by rw [← hMc, am_up_ne z1, am_up_ne z2]
      have rMc : ∀ z, z ≠ 1 → z ≠ 15 → z ≠ 79 → z ≠ 48 + 2 * t → z ≠ 49 + 2 * t → Mc z = M z := fun z z1 z2 z3 z4 z5 => by rw [rM0 z z1 z2, r0 z z3 z4 z5]
      have ec1 : Mc 1 = up1 (M 1) 8 (nI (t + 1)) := by rw [← hMc, up_row, am_up_ne (by decide), r0 1 (by decide) (by omega) (by omega)]
      have ec15 : Mc 15 = up1 (M 15) K (nI t) := by rw [← hMc, am_up_ne (by decide), up_row, r0 15 (by decide) (by omega) (by omega)]
      obtain ⟨hTR, hx1, hx2⟩ := mk Mc rMc
      obtain ⟨Y, y1, y15, y19, y20, ysr, y3⟩ := (q_mt (lp := 48 + 2 * t) hTR hx1 hx2).2 K c o hrd
      obtain ⟨f1, f2, f3, f4⟩ := y3
      have e122 : Y 122 = M 122 := by rw [f1 122 (by decide) (by decide) (by decide) (by decide), rMc 122 (by decide) (by decide) (by decide) (by omega) (by omega)]
      generalize hZ : am_up (am_up (am_up Y 121 9 0) 122 (76 + 2 * t) (nI (1000 * K + c.length))) 122 (77 + 2 * t) (nI o) = Z
      have rZ : ∀ z, z ≠ 121 → z ≠ 122 → Z z = Y z := fun z z1 z2 => by rw [← hZ, am_up_ne z2, am_up_ne z2, am_up_ne z1]
      have rZ121 : Z 121 = up1 (Y 121) 9 0 := by rw [← hZ, am_up_ne (by decide), am_up_ne (by decide), up_row]
      have rZ122 : Z 122 = up1 (up1 (M 122) (76 + 2 * t) (nI (1000 * K + c.length))) (77 + 2 * t) (nI o) := by rw [← hZ, up_row, up_row, am_up_ne (by decide), e122]
      obtain ⟨Z', q1, q2, q3⟩ := text_cp (lp := 48 + 2 * t) ht hlen c.length 0 am_F Z (by omega) (by unfold am_F; omega) (by rw [rZ121, up1_ne (by decide)]; exact y19)
      have hrow : Z' 122 = txG (M 122) t K c.length (nI o) (Y 132) := by
        funext j
        rw [q3 j]
        unfold txG
        by_cases h5 : j = 5
        · rw [if_pos h5, if_pos h5, rZ122, up1_ne (by omega), up1_ne (by omega), et, nI_1]
        · rw [if_neg h5, if_neg h5]
          by_cases hc : 104 + 96 * t ≤ j ∧ j < 104 + 96 * t + c.length
          · rw [if_pos (by omega), if_pos hc, rZ 132 (by decide) (by decide)]
          · rw [if_neg (by omega), if_neg hc, rZ122]
            by_cases h77 : j = 77 + 2 * t
            · rw [if_pos h77, h77, up1_eq]
            · rw [if_neg h77, up1_ne h77]
              by_cases h76 : j = 76 + 2 * t
              · rw [if_pos h76, h76, up1_eq]
              · rw [if_neg h76, up1_ne h76]
      have rfin : ∀ z, z ≠ 121 → z ≠ 122 → z ≠ 132 → z ≠ 133 → z ≠ 134 → Z' z = Mc z := fun z z1 z2 z3 z4 z5 => by rw [q2 z z2, rZ z z1 z2, f1 z z1 z3 z4 z5]
      have g5 : txG (M 122) t K c.length (nI o) (Y 132) 5 = nI (t + 1) := by unfold txG; rw [if_pos rfl]
      have g2 : txG (M 122) t K c.length (nI o) (Y 132) 2 = M 122 2 := by unfold txG; rw [if_neg (by decide), if_neg (by omega), if_neg (by omega), if_neg (by omega)]
      refine ⟨nI t, 48 + 2 * t, Mc, Z', ?_, ?_, ?_⟩
      · have hnn : ((-1 : Int32) < 0) = True := by decide
        have hlt : (nI t < (14 : Int32)) = True := zlt (n := 14) ht (by decide)
        have e8 : M0 1 8 = nI t := by rw [r0 1 (by decide) (by omega) (by omega)]; exact e18
        have e8' : am_up M0 15 K (nI t) 1 8 = nI t := by rw [am_up_ne (by decide)]; exact e8
        have ek : M0 (48 + 2 * t) 0 = nI K := by rw [r0N _ (by omega)]; exact n0
        simp (disch := omega) only [fxX9_text, fxX2_addText, q_lawOf, am_gd_t, am_lt_e, am_bd_s, bi_0, bi_bz, bz0, bz1, nz2, nz10, nz100, hp_gi, hp_si, ↓reduceIte, if_true, if_false, Bool.true_eq_false, Bool.false_eq_true, eq_self, reduceCtorEq, zo0, zp0_0, zp0_1, zp0_2, zp0_4, zp0_5, zp0_6, zp0_7, zp0_8, zp0_9, zp0_10, zo1, zp1_0, zp1_5, zp1_6, zp1_9, zo16, zp16_0, zp16_5, zp16_6, zp16_9, zo31, zp31_0, zp31_5, zp31_6, zp31_9, zo46, zp46_0, zp46_1, zp46_2, zo79, zp79_0, zo83, zp83_0, zp83_1, zp83_2, zo87, zp87_0, zp87_1, zo121, zp121_0, zp121_1, zp121_2, zp121_4, zp121_5, zp121_6, zp121_7, zp121_8, zp121_16, zp121_17, zp121_18, zp121_21, zp121_23, zp121_24, zp121_25, zp121_26, zp121_27, zp121_28, zp121_29, zp121_30, zp121_31, zp121_32, zp121_33, zp121_34, zp79_2, zx2, zx13, zx14, zx15, zx17, zx28, zx29, zx30, zx32, zx43, zx44, zx45, zx47, zx78, zx80, zx84, zx85, zx86, zx88, zx89, zx90, zx99, zx120, zx122, zx123, zx124, zx125, zx126, zx127, zx128, zx129, zx130, zx131, zx132, zx133, zx134, zx135, zx136, zx137, zx138, zx139, zx140, zx141, zx142, zx143, zx144, zx145, zg2, zg17, zg32, zgo3, zgo18, zgo33, zl47, zlo, zlp, zlx, zs90, zso, zsp, zsx, zt99, zto, ztp1, ztp2, ztgo, ztso, ztsp, ztsx, zc0, zi0, zc1, zi1, zc2, zi2, zc3, zi3, zc4, zi4, zc5, zi5, zin, zcl, nI_1, Bool.and_self, Bool.true_and, Bool.and_true, e18, r1, hM0, hnn, hlt, ek, e8, e8', hMc]
      · rw [y1]
        have w5 : am_up Y 121 9 0 122 5 = nI t := by rw [am_up_ne (by decide), e122]; exact et
        have w14 : (nI t = (14 : Int32)) = False := eq_false (fun q => h14' ((nI_eq (b := 14) (by omega) (by decide)).mp q))
        have w15 : am_up Y 121 9 0 121 15 = nI K := by rw [up_nj (by decide)]; exact y15
        have w19 : am_up Y 121 9 0 121 19 = nI c.length := by rw [up_nj (by decide)]; exact y19
        have w20 : am_up (am_up Y 121 9 0) 122 (76 + 2 * t) (nI (1000 * K + c.length)) 121 20 = nI o := by rw [am_up_ne (by decide), up_nj (by decide)]; exact y20
        have i76 : (76 : Int32) + (2 : Int32) * nI t = nI (76 + 2 * t) := by rw [two_i, show (76 : Int32) = nI 76 from rfl, nI_add]
        have i77 : nI (76 + 2 * t) + 1 = nI (77 + 2 * t) := by rw [nI_1]; congr 1; omega
        have i1000 : (1000 : Int32) * nI K + nI c.length = nI (1000 * K + c.length) := by rw [show (1000 : Int32) = nI 1000 from rfl, pk_mul, nI_add]
        simp (disch := omega) only [fxX10_text_b33, am_gd_t, am_lt_e, am_bd_s, bi_0, bi_bz, bz0, bz1, nz2, nz10, nz100, hp_gi, hp_si, ↓reduceIte, if_true, if_false, Bool.true_eq_false, Bool.false_eq_true, eq_self, reduceCtorEq, zo0, zp0_0, zp0_1, zp0_2, zp0_4, zp0_5, zp0_6, zp0_7, zp0_8, zp0_9, zp0_10, zo1, zp1_0, zp1_5, zp1_6, zp1_9, zo16, zp16_0, zp16_5, zp16_6, zp16_9, zo31, zp31_0, zp31_5, zp31_6, zp31_9, zo46, zp46_0, zp46_1, zp46_2, zo79, zp79_0, zo83, zp83_0, zp83_1, zp83_2, zo87, zp87_0, zp87_1, zo121, zp121_0, zp121_1, zp121_2, zp121_4, zp121_5, zp121_6, zp121_7, zp121_8, zp121_16, zp121_17, zp121_18, zp121_21, zp121_23, zp121_24, zp121_25, zp121_26, zp121_27, zp121_28, zp121_29, zp121_30, zp121_31, zp121_32, zp121_33, zp121_34, zp79_2, zx2, zx13, zx14, zx15, zx17, zx28, zx29, zx30, zx32, zx43, zx44, zx45, zx47, zx78, zx80, zx84, zx85, zx86, zx88, zx89, zx90, zx99, zx120, zx122, zx123, zx124, zx125, zx126, zx127, zx128, zx129, zx130, zx131, zx132, zx133, zx134, zx135, zx136, zx137, zx138, zx139, zx140, zx141, zx142, zx143, zx144, zx145, zg2, zg17, zg32, zgo3, zgo18, zgo33, zl47, zlo, zlp, zlx, zs90, zso, zsp, zsx, zt99, zto, ztp1, ztp2, ztgo, ztso, ztsp, ztsx, zc0, zi0, zc1, zi1, zc2, zi2, zc3, zi3, zc4, zi4, zc5, zi5, zin, zcl, nI_1, Bool.and_self, Bool.true_and, Bool.and_true, one0, w5, w14, w15, w19, i76, i1000, i77, w20, hZ]
        exact q1
      · refine hI.text htt.symm (fun z z1 z2 z3 z4 z5 z6 z7 z8 z9 z10 => by rw [rfin z z6 z7 z8 z9 z10, rMc z z1 z2 z3 z4 z5]) ?_ ?_ ?_ ?_ ?_ ?_ ?_
        · rw [rfin 79 (by decide) (by decide) (by decide) (by decide) (by decide), rM0 79 (by decide) (by decide), ← hM0, up_eq]
        · rw [q2 121 (by decide), rZ121, up1_eq]
        · rw [q2 121 (by decide), rZ121, up1_ne (by decide), f2, rMc 121 (by decide) (by decide) (by decide) (by omega) (by omega)]
        · rw [q2 121 (by decide), rZ121, up1_ne (by decide), f4, rMc 121 (by decide) (by decide) (by decide) (by omega) (by omega)]
        · rw [hrow]
          refine RC_text hR et ht hK hlen (by omega) ysr hG ?_ ?_ ?_ ?_ ?_ ?_ (fun z z1 z2 => ?_) (fun t' ht' => ?_)
          · rw [rfin 1 (by decide) (by decide) (by decide) (by decide) (by decide)]; exact ec1
          · rw [rfin 15 (by decide) (by decide) (by decide) (by decide) (by decide)]; exact ec15
          · rw [rfin _ (by omega) (by omega) (by omega) (by omega) (by omega), rM0 _ (by omega) (by omega), r0N _ (by omega)]; exact n0
          · rw [rfin _ (by omega) (by omega) (by omega) (by omega) (by omega), rM0 _ (by omega) (by omega), r0N _ (by omega)]; exact n1
          · rw [rfin _ (by omega) (by omega) (by omega) (by omega) (by omega), rM0 _ (by omega) (by omega), r0N _ (by omega)]; exact n3
          · rw [rfin _ (by omega) (by omega) (by omega) (by omega) (by omega), rM0 _ (by omega) (by omega), r0N _ (by omega)]; exact ncr
          · rw [rfin _ (by omega) (by omega) (by omega) (by omega) (by omega), rMc _ (by omega) (by omega) (by omega) (by omega) (by omega)]
          · exact ⟨by rw [rfin _ (by omega) (by omega) (by omega) (by omega) (by omega), rMc _ (by omega) (by omega) (by omega) (by omega) (by omega)], by rw [rfin _ (by omega) (by omega) (by omega) (by omega) (by omega), rMc _ (by omega) (by omega) (by omega) (by omega) (by omega)]⟩
        · rw [hrow, g2]; exact hI.1.2
        · rw [hrow, g5, cn_nI (by omega), htt]; omega
