/-! ===== the law ===== -/
theorem ini_hp : ∃ (h2 : am_H) (M0 : Mem), fxX9_init (some 0) (am_nw am_h0 (.inr 9)) = some ((), h2) ∧ h2.1 = 121 ∧ fxX10_init (some 121) (am_nw h2 (.inr 10)) = some ((), hp 81 M0) ∧ Inv 81 M0 := by
  have hB0 : Bd (am_nw am_h0 (.inr 9)) := Bd_nw ⟨fun k _ => ⟨rfl, fun _ => rfl⟩, fun _ _ _ => rfl, fun k q hq => by cases hq⟩ (fun q e => by cases e)
  have hz := bz_X9 (l0 := some 0) hB0
  have ht := ini_t
  unfold ini1 at ht
  generalize fxX9_init (some 0) (am_nw am_h0 (.inr 9)) = x at *
  cases x with
  | none => cases ht
  | some p =>
    obtain ⟨u, h2⟩ := p
    have hB2 : Bd h2 := hz u h2 rfl
    have ht : (h2.1 == 121 && ini2 h2) = true := ht
    rw [Bool.and_eq_true] at ht
    obtain ⟨t1, t2⟩ := ht
    have hz2 := bz_X10 (l0 := some 121) (Bd_nw (sh := .inr 10) hB2 (fun q e => by cases e))
    unfold ini2 at t2
    generalize hx : fxX10_init (some 121) (am_nw h2 (.inr 10)) = x at *
    cases x with
    | none => cases t2
    | some p =>
      obtain ⟨v, h5⟩ := p
      have hB5 : Bd h5 := hz2 v h5 rfl
      have t2 : (ckH h5 && ckM h5.2.2.1 && ckX h5.2.2.1) = true := t2
      rw [Bool.and_eq_true, Bool.and_eq_true] at t2
      obtain ⟨⟨c1, c2⟩, c3⟩ := t2
      obtain ⟨n5, S5, M5, P5⟩ := h5
      dsimp only at c2 c3
      unfold ckH at c1
      rw [Bool.and_eq_true, Bool.and_eq_true] at c1
      obtain ⟨⟨d1, d2⟩, d3⟩ := c1
      have d1 : n5 = 146 := beq_iff_eq.mp d1
      subst d1
      have hL : hp_L.length = 146 := by decide +kernel
      have hQ : hp_Q.length = 146 := by decide +kernel
      have hQr : ∀ r, r ∈ hp_Q → r.length ≤ 36 := by decide +kernel
      have eS : S5 = hp_S := by
        funext k
        by_cases hk : k < 146
        · exact of_decide_eq_true (List.all_eq_true.mp d2 k (List.mem_range.mpr hk))
        · have e1 : S5 k = .inr 0 := (hB5.1 k (Nat.not_lt.mp hk)).1
          rw [e1]
          unfold hp_S
          rw [List.getD_eq_getElem?_getD, List.getElem?_eq_none (by omega)]
          rfl
      have eP : P5 = hp_P 81 := by
        funext k j
        by_cases hk : k < 146
        · by_cases hj : j < 36
          · exact of_decide_eq_true (List.all_eq_true.mp (List.all_eq_true.mp d3 k (List.mem_range.mpr hk)) j (List.mem_range.mpr hj))
          · have e1 : P5 k j = none := hB5.2.1 k j (Nat.not_lt.mp hj)
            rw [e1]
            unfold hp_P
            by_cases h79 : k = 79
            · rw [if_pos h79, if_neg (by omega), if_neg (by omega)]
            · rw [if_neg h79]
              have hr : (hp_Q.getD k []).length ≤ 36 := by
                rw [List.getD_eq_getElem?_getD, List.getElem?_eq_getElem (by omega)]
                exact hQr _ (List.getElem_mem _)
              generalize hp_Q.getD k [] = r at *
              rw [List.getD_eq_getElem?_getD, List.getElem?_eq_none (by omega)]
              rfl
        · have e1 : P5 k j = none := (hB5.1 k (Nat.not_lt.mp hk)).2 j
          rw [e1]
          unfold hp_P
          rw [if_neg (by omega), List.getD_eq_getElem?_getD (l := hp_Q), List.getElem?_eq_none (by omega)]
          rfl
      subst eS eP
      refine ⟨h2, M5, rfl, beq_iff_eq.mp t1, hx, ?_⟩
      unfold ckM at c2
      simp only [Bool.and_eq_true, beq_iff_eq, List.all_eq_true, List.mem_range] at c2
      obtain ⟨⟨⟨⟨⟨⟨⟨⟨⟨⟨⟨⟨⟨⟨⟨⟨⟨⟨⟨⟨⟨⟨⟨a1, a2⟩, a3⟩, a4⟩, a5⟩, a6⟩, a7⟩, a8⟩, a9⟩, a10⟩, a11⟩, a12⟩, a13⟩, a14⟩, a15⟩, a16⟩, a17⟩, a18⟩, a19⟩, a20⟩, aS⟩, aL⟩, a130⟩, a131⟩ := c2
      unfold ckX at c3
      simp only [beq_iff_eq, List.all_eq_true, List.mem_range] at c3
      have z1 : cn (M5 122 1) = 0 := by rw [a3]; rfl
      have z4 : cn (M5 122 4) = 0 := by rw [a9]; rfl
      have z5 : cn (M5 122 5) = 0 := by rw [a11]; rfl
      refine ⟨⟨⟨⟨a1, by rw [a2, a3], by rw [a4, a5], by rw [a6, a7], by rw [a8, a9], by rw [a10, a11]⟩, fun i hi => by omega, fun i hi => by omega, ⟨fun t ht => by omega, fun key hk => ?_⟩, ⟨⟨0, by omega, a3⟩, ⟨0, by omega, a5⟩, ⟨5, by omega, a7⟩, ⟨0, by omega, a9⟩, ⟨0, by omega, a11⟩⟩, fun i hi => by omega⟩, by rw [a5]; decide⟩, ⟨by rw [a15, a16], Or.inl a16⟩, ⟨0, by omega, a17, a18, fun i hi => by omega⟩, ⟨0, by omega, a19, a20, fun i hi => by omega⟩, fun s hs => ?_, fun s hs => ?_, ⟨a130, a131, c3⟩, Or.inr rfl⟩
      · rw [z5]
        rcases (show key = 0 ∨ key = 1 ∨ key = 2 by omega) with rfl | rfl | rfl
        · exact a12
        · exact a13
        · exact a14
      · obtain ⟨⟨⟨⟨s1, s2⟩, s3⟩, s4⟩, s5⟩ := aS s hs
        exact ⟨⟨0, by omega, s1, s2, fun _ => rfl⟩, ⟨by rw [s3, s4], Or.inl s4⟩, s5⟩
      · obtain ⟨s1, s2⟩ := aL s hs
        exact ⟨by rw [s1, s2], Or.inl s2⟩
theorem nI6 (i : Nat) : nI i + 6 = nI (i + 6) := by rw [show (6 : Int32) = nI 6 from rfl, nI_add]
theorem law_go {xs : List Int32} (hL : xs.length ≤ 384) : ∀ k i fuel lp M, Inv lp M → xs.length < i + 6 * k + 6 → k < fuel → i ≤ 1000 → ∃ lp' M', fxL_law_b18 xs fuel (some 0) (some 121) (nI i) (hp lp M) = some (1, hp lp' M') := by
  intro k
  induction k with
  | zero =>
    intro i fuel lp M hI hk hf hi
    obtain ⟨fuel, rfl⟩ : ∃ f, fuel = f + 1 := ⟨fuel - 1, by omega⟩
    refine ⟨lp, M, ?_⟩
    have hc : (Int32.ofNat (am_kc xs 8).length - 6 : Int32) < nI i := by
      show (nI xs.length - 6 : Int32) < nI i
      rw [Int32.lt_iff_toInt_lt, show (6 : Int32) = nI 6 from rfl, pk_sub_toInt (by omega) (by decide), nI_toInt (by omega)]
      omega
    rw [fxL_law_b18, if_pos hc]
    rfl
  | succ k ih =>
    intro i fuel lp M hI hk hf hi
    obtain ⟨fuel, rfl⟩ : ∃ f, fuel = f + 1 := ⟨fuel - 1, by omega⟩
    by_cases hin : i + 6 ≤ xs.length
    · have hc : ¬ (Int32.ofNat (am_kc xs 8).length - 6 : Int32) < nI i := by
        show ¬ (nI xs.length - 6 : Int32) < nI i
        rw [Int32.lt_iff_toInt_lt, show (6 : Int32) = nI 6 from rfl, pk_sub_toInt (by omega) (by decide), nI_toInt (by omega)]
        omega
      have g0 : am_in (nI i) (am_kc xs 8).length = true := in_nI (show i < xs.length by omega) (by show xs.length ≤ 1000000; omega)
      have g1 : am_in (nI i + 1) (am_kc xs 8).length = true := by
        rw [show (nI i + 1 : Int32) = nI (i + 1) from nI_add i 1]
        exact in_nI (show i + 1 < xs.length by omega) (by show xs.length ≤ 1000000; omega)
      have g2 : am_in (nI i + 2) (am_kc xs 8).length = true := by
        rw [show (nI i + 2 : Int32) = nI (i + 2) from nI_add i 2]
        exact in_nI (show i + 2 < xs.length by omega) (by show xs.length ≤ 1000000; omega)
      have g3 : am_in (nI i + 3) (am_kc xs 8).length = true := by
        rw [show (nI i + 3 : Int32) = nI (i + 3) from nI_add i 3]
        exact in_nI (show i + 3 < xs.length by omega) (by show xs.length ≤ 1000000; omega)
      have g4 : am_in (nI i + 4) (am_kc xs 8).length = true := by
        rw [show (nI i + 4 : Int32) = nI (i + 4) from nI_add i 4]
        exact in_nI (show i + 4 < xs.length by omega) (by show xs.length ≤ 1000000; omega)
      have g5 : am_in (nI i + 5) (am_kc xs 8).length = true := by
        rw [show (nI i + 5 : Int32) = nI (i + 5) from nI_add i 5]
        exact in_nI (show i + 5 < xs.length by omega) (by show xs.length ≤ 1000000; omega)
      have go : ∀ lp1 M2, Inv lp1 M2 → ∃ lp' M', fxL_law_b1402 xs (fxL_law_b18 xs fuel) (some 0) (some 121) (nI i) (hp lp1 M2) = some (1, hp lp' M') := by
        intro lp1 M2 hI2
        obtain ⟨lp', M', q⟩ := ih (i + 6) fuel lp1 M2 hI2 (by omega) (by omega) (by omega)
        refine ⟨lp', M', ?_⟩
        show fxL_law_b18 xs fuel (some 0) (some 121) (nI i + 6) (hp lp1 M2) = _
        rw [nI6]
        exact q
      rw [fxL_law_b18, if_neg hc, g0, am_gd_t]
      by_cases c0 : (((am_kc xs 8).getD (nI i).toNatClampNeg 0) &&& (63 : Int32)) = 0
      · rw [if_pos c0]
        obtain ⟨r, lp1, M1, M2, p1, p2, p3⟩ := P_glove ((am_kc xs 8).getD (nI i + (1 : Int32)).toNatClampNeg 0) ((am_kc xs 8).getD (nI i + (2 : Int32)).toNatClampNeg 0) ((am_kc xs 8).getD (nI i + (3 : Int32)).toNatClampNeg 0) ((am_kc xs 8).getD (nI i + (4 : Int32)).toNatClampNeg 0) lp M hI
        obtain ⟨lp', M', q⟩ := go lp1 M2 p3
        refine ⟨lp', M', ?_⟩
        simp only [g1, g2, g3, g4, zo0, zo121, am_gd_t, p1, am_bd_s, p2, if_true, q]
      rw [if_neg c0]
      by_cases c1 : (((am_kc xs 8).getD (nI i).toNatClampNeg 0) &&& (63 : Int32)) = 1
      · rw [if_pos c1]
        obtain ⟨r, lp1, M1, M2, p1, p2, p3⟩ := P_told ((am_kc xs 8).getD (nI i + (1 : Int32)).toNatClampNeg 0) ((am_kc xs 8).getD (nI i + (2 : Int32)).toNatClampNeg 0) lp M hI
        obtain ⟨lp', M', q⟩ := go lp1 M2 p3
        refine ⟨lp', M', ?_⟩
        simp only [g1, g2, zo0, zo121, am_gd_t, p1, am_bd_s, p2, if_true, q]
      rw [if_neg c1]
      by_cases c2 : (((am_kc xs 8).getD (nI i).toNatClampNeg 0) &&& (63 : Int32)) = 2
      · rw [if_pos c2]
        obtain ⟨r, lp1, M1, M2, p1, p2, p3⟩ := P_as ((am_kc xs 8).getD (nI i + (1 : Int32)).toNatClampNeg 0) ((am_kc xs 8).getD (nI i + (2 : Int32)).toNatClampNeg 0) lp M hI
        obtain ⟨lp', M', q⟩ := go lp1 M2 p3
        refine ⟨lp', M', ?_⟩
        simp only [g1, g2, zo0, zo121, am_gd_t, p1, am_bd_s, p2, if_true, q]
      rw [if_neg c2]
      by_cases c3 : (((am_kc xs 8).getD (nI i).toNatClampNeg 0) &&& (63 : Int32)) = 3
      · rw [if_pos c3]
        obtain ⟨r, lp1, M1, M2, p1, p2, p3⟩ := P_turns ((am_kc xs 8).getD (nI i + (1 : Int32)).toNatClampNeg 0) ((am_kc xs 8).getD (nI i + (2 : Int32)).toNatClampNeg 0) lp M hI
        obtain ⟨lp', M', q⟩ := go lp1 M2 p3
        refine ⟨lp', M', ?_⟩
        simp only [g1, g2, zo0, zo121, am_gd_t, p1, am_bd_s, p2, if_true, q]
      rw [if_neg c3]
      by_cases c4 : (((am_kc xs 8).getD (nI i).toNatClampNeg 0) &&& (63 : Int32)) = 4
      · rw [if_pos c4]
        obtain ⟨r, lp1, M1, M2, p1, p2, p3⟩ := P_set ((am_kc xs 8).getD (nI i + (1 : Int32)).toNatClampNeg 0) ((am_kc xs 8).getD (nI i + (2 : Int32)).toNatClampNeg 0) ((am_kc xs 8).getD (nI i + (3 : Int32)).toNatClampNeg 0) lp M hI
        obtain ⟨lp', M', q⟩ := go lp1 M2 p3
        refine ⟨lp', M', ?_⟩
        simp only [g1, g2, g3, zo0, zo121, am_gd_t, p1, am_bd_s, p2, if_true, q]
      rw [if_neg c4]
      by_cases c5 : (((am_kc xs 8).getD (nI i).toNatClampNeg 0) &&& (63 : Int32)) = 5
      · rw [if_pos c5]
        obtain ⟨r, lp1, M1, M2, p1, p2, p3⟩ := P_fits ((am_kc xs 8).getD (nI i + (1 : Int32)).toNatClampNeg 0) ((am_kc xs 8).getD (nI i + (2 : Int32)).toNatClampNeg 0) lp M hI
        obtain ⟨lp', M', q⟩ := go lp1 M2 p3
        refine ⟨lp', M', ?_⟩
        simp only [g1, g2, zo0, zo121, am_gd_t, p1, am_bd_s, p2, if_true, q]
      rw [if_neg c5]
      by_cases c6 : (((am_kc xs 8).getD (nI i).toNatClampNeg 0) &&& (63 : Int32)) = 6
      · rw [if_pos c6]
        obtain ⟨r, lp1, M1, M2, p1, p2, p3⟩ := P_value ((am_kc xs 8).getD (nI i + (1 : Int32)).toNatClampNeg 0) ((am_kc xs 8).getD (nI i + (2 : Int32)).toNatClampNeg 0) lp M hI
        obtain ⟨lp', M', q⟩ := go lp1 M2 p3
        refine ⟨lp', M', ?_⟩
        simp only [g1, g2, zo0, zo121, am_gd_t, p1, am_bd_s, p2, if_true, q]
      rw [if_neg c6]
      by_cases c7 : (((am_kc xs 8).getD (nI i).toNatClampNeg 0) &&& (63 : Int32)) = 7
      · rw [if_pos c7]
        obtain ⟨r, lp1, M1, M2, p1, p2, p3⟩ := P_deal ((am_kc xs 8).getD (nI i + (1 : Int32)).toNatClampNeg 0) lp M hI
        obtain ⟨lp', M', q⟩ := go lp1 M2 p3
        refine ⟨lp', M', ?_⟩
        simp only [g1, zo0, zo121, am_gd_t, p1, am_bd_s, p2, if_true, q]
      rw [if_neg c7]
      by_cases c8 : (((am_kc xs 8).getD (nI i).toNatClampNeg 0) &&& (63 : Int32)) = 8
      · rw [if_pos c8]
        obtain ⟨r, lp1, M1, M2, p1, p2, p3⟩ := P_seed ((am_kc xs 8).getD (nI i + (1 : Int32)).toNatClampNeg 0) lp M hI
        obtain ⟨lp', M', q⟩ := go lp1 M2 p3
        refine ⟨lp', M', ?_⟩
        simp only [g1, zo0, zo121, am_gd_t, p1, am_bd_s, p2, if_true, q]
      rw [if_neg c8]
      by_cases c9 : (((am_kc xs 8).getD (nI i).toNatClampNeg 0) &&& (63 : Int32)) = 9
      · rw [if_pos c9]
        obtain ⟨r, lp1, M1, M2, p1, p2, p3⟩ := P_best ((am_kc xs 8).getD (nI i + (1 : Int32)).toNatClampNeg 0) lp M hI
        obtain ⟨lp', M', q⟩ := go lp1 M2 p3
        refine ⟨lp', M', ?_⟩
        simp only [g1, zo0, zo121, am_gd_t, p1, am_bd_s, p2, if_true, q]
      rw [if_neg c9]
      by_cases c10 : (((am_kc xs 8).getD (nI i).toNatClampNeg 0) &&& (63 : Int32)) = 10
      · rw [if_pos c10]
        obtain ⟨r, lp1, M1, M2, p1, p2, p3⟩ := P_partner ((am_kc xs 8).getD (nI i + (1 : Int32)).toNatClampNeg 0) lp M hI
        obtain ⟨lp', M', q⟩ := go lp1 M2 p3
        refine ⟨lp', M', ?_⟩
        simp only [g1, zo0, zo121, am_gd_t, p1, am_bd_s, p2, if_true, q]
      rw [if_neg c10]
      by_cases c11 : (((am_kc xs 8).getD (nI i).toNatClampNeg 0) &&& (63 : Int32)) = 11
      · rw [if_pos c11]
        obtain ⟨r, lp1, M1, M2, p1, p2, p3⟩ := P_adds ((am_kc xs 8).getD (nI i + (1 : Int32)).toNatClampNeg 0) lp M hI
        obtain ⟨lp', M', q⟩ := go lp1 M2 p3
        refine ⟨lp', M', ?_⟩
        simp only [g1, zo0, zo121, am_gd_t, p1, am_bd_s, p2, if_true, q]
      rw [if_neg c11]
      by_cases c12 : (((am_kc xs 8).getD (nI i).toNatClampNeg 0) &&& (63 : Int32)) = 12
      · rw [if_pos c12]
        obtain ⟨r, lp1, M1, M2, p1, p2, p3⟩ := P_leaves ((am_kc xs 8).getD (nI i + (1 : Int32)).toNatClampNeg 0) lp M hI
        obtain ⟨lp', M', q⟩ := go lp1 M2 p3
        refine ⟨lp', M', ?_⟩
        simp only [g1, zo0, zo121, am_gd_t, p1, am_bd_s, p2, if_true, q]
      rw [if_neg c12]
      by_cases c13 : (((am_kc xs 8).getD (nI i).toNatClampNeg 0) &&& (63 : Int32)) = 13
      · rw [if_pos c13]
        obtain ⟨r, lp1, M1, M2, p1, p2, p3⟩ := P_loss ((am_kc xs 8).getD (nI i + (1 : Int32)).toNatClampNeg 0) lp M hI
        obtain ⟨lp', M', q⟩ := go lp1 M2 p3
        refine ⟨lp', M', ?_⟩
        simp only [g1, zo0, zo121, am_gd_t, p1, am_bd_s, p2, if_true, q]
      rw [if_neg c13]
      by_cases c14 : (((am_kc xs 8).getD (nI i).toNatClampNeg 0) &&& (63 : Int32)) = 14
      · rw [if_pos c14]
        obtain ⟨r, lp1, M1, M2, p1, p2, p3⟩ := P_days ((am_kc xs 8).getD (nI i + (1 : Int32)).toNatClampNeg 0) lp M hI
        obtain ⟨lp', M', q⟩ := go lp1 M2 p3
        refine ⟨lp', M', ?_⟩
        simp only [g1, zo0, zo121, am_gd_t, p1, am_bd_s, p2, if_true, q]
      rw [if_neg c14]
      by_cases c15 : (((am_kc xs 8).getD (nI i).toNatClampNeg 0) &&& (63 : Int32)) = 15
      · rw [if_pos c15]
        obtain ⟨r, lp1, M1, M2, p1, p2, p3⟩ := P_behind ((am_kc xs 8).getD (nI i + (1 : Int32)).toNatClampNeg 0) ((am_kc xs 8).getD (nI i + (2 : Int32)).toNatClampNeg 0) lp M hI
        obtain ⟨lp', M', q⟩ := go lp1 M2 p3
        refine ⟨lp', M', ?_⟩
        simp only [g1, g2, zo0, zo121, am_gd_t, p1, am_bd_s, p2, if_true, q]
      rw [if_neg c15]
      by_cases c16 : (((am_kc xs 8).getD (nI i).toNatClampNeg 0) &&& (63 : Int32)) = 16
      · rw [if_pos c16]
        obtain ⟨r, lp1, M1, M2, p1, p2, p3⟩ := P_keepHome ((am_kc xs 8).getD (nI i + (1 : Int32)).toNatClampNeg 0) lp M hI
        obtain ⟨lp', M', q⟩ := go lp1 M2 p3
        refine ⟨lp', M', ?_⟩
        simp only [g1, zo0, zo121, am_gd_t, p1, am_bd_s, p2, if_true, q]
      rw [if_neg c16]
      by_cases c17 : (((am_kc xs 8).getD (nI i).toNatClampNeg 0) &&& (63 : Int32)) = 17
      · rw [if_pos c17]
        obtain ⟨r, lp1, M1, M2, p1, p2, p3⟩ := P_fine  lp M hI
        obtain ⟨lp', M', q⟩ := go lp1 M2 p3
        refine ⟨lp', M', ?_⟩
        simp only [zo0, zo121, am_gd_t, p1, am_bd_s, p2, if_true, q]
      rw [if_neg c17]
      by_cases c18 : (((am_kc xs 8).getD (nI i).toNatClampNeg 0) &&& (63 : Int32)) = 18
      · rw [if_pos c18]
        obtain ⟨r, lp1, M1, M2, p1, p2, p3⟩ := P_worn ((am_kc xs 8).getD (nI i + (1 : Int32)).toNatClampNeg 0) ((am_kc xs 8).getD (nI i + (2 : Int32)).toNatClampNeg 0) lp M hI
        obtain ⟨lp', M', q⟩ := go lp1 M2 p3
        refine ⟨lp', M', ?_⟩
        simp only [g1, g2, zo0, zo121, am_gd_t, p1, am_bd_s, p2, if_true, q]
      rw [if_neg c18]
      by_cases c19 : (((am_kc xs 8).getD (nI i).toNatClampNeg 0) &&& (63 : Int32)) = 19
      · rw [if_pos c19]
        obtain ⟨r, lp1, M1, M2, p1, p2, p3⟩ := P_forget  lp M hI
        obtain ⟨lp', M', q⟩ := go lp1 M2 p3
        refine ⟨lp', M', ?_⟩
        simp only [zo0, zo121, am_gd_t, p1, am_bd_s, p2, if_true, q]
      rw [if_neg c19]
      by_cases c20 : (((am_kc xs 8).getD (nI i).toNatClampNeg 0) &&& (63 : Int32)) = 20
      · rw [if_pos c20]
        obtain ⟨r, lp1, M1, M2, p1, p2, p3⟩ := P_joins  lp M hI
        obtain ⟨lp', M', q⟩ := go lp1 M2 p3
        refine ⟨lp', M', ?_⟩
        simp only [zo0, zo121, am_gd_t, p1, am_bd_s, p2, if_true, q]
      rw [if_neg c20]
      by_cases c21 : (((am_kc xs 8).getD (nI i).toNatClampNeg 0) &&& (63 : Int32)) = 21
      · rw [if_pos c21]
        obtain ⟨r, lp1, M1, M2, p1, p2, p3⟩ := P_sure ((am_kc xs 8).getD (nI i + (1 : Int32)).toNatClampNeg 0) lp M hI
        obtain ⟨lp', M', q⟩ := go lp1 M2 p3
        refine ⟨lp', M', ?_⟩
        simp only [g1, zo0, zo121, am_gd_t, p1, am_bd_s, p2, if_true, q]
      rw [if_neg c21]
      by_cases c22 : (((am_kc xs 8).getD (nI i).toNatClampNeg 0) &&& (63 : Int32)) = 22
      · rw [if_pos c22]
        obtain ⟨r, lp1, M1, M2, p1, p2, p3⟩ := P_better ((am_kc xs 8).getD (nI i + (1 : Int32)).toNatClampNeg 0) lp M hI
        obtain ⟨lp', M', q⟩ := go lp1 M2 p3
        refine ⟨lp', M', ?_⟩
        simp only [g1, zo0, zo121, am_gd_t, p1, am_bd_s, p2, if_true, q]
      rw [if_neg c22]
      by_cases c23 : (((am_kc xs 8).getD (nI i).toNatClampNeg 0) &&& (63 : Int32)) = 23
      · rw [if_pos c23]
        obtain ⟨r, lp1, M1, M2, p1, p2, p3⟩ := P_feed ((am_kc xs 8).getD (nI i + (1 : Int32)).toNatClampNeg 0) ((am_kc xs 8).getD (nI i + (2 : Int32)).toNatClampNeg 0) ((am_kc xs 8).getD (nI i + (3 : Int32)).toNatClampNeg 0) lp M hI
        obtain ⟨lp', M', q⟩ := go lp1 M2 p3
        refine ⟨lp', M', ?_⟩
        simp only [g1, g2, g3, zo0, zo121, am_gd_t, p1, am_bd_s, p2, if_true, q]
      rw [if_neg c23]
      by_cases c24 : (((am_kc xs 8).getD (nI i).toNatClampNeg 0) &&& (63 : Int32)) = 24
      · rw [if_pos c24]
        obtain ⟨r, lp1, M1, M2, p1, p2, p3⟩ := P_trim ((am_kc xs 8).getD (nI i + (1 : Int32)).toNatClampNeg 0) lp M hI
        obtain ⟨lp', M', q⟩ := go lp1 M2 p3
        refine ⟨lp', M', ?_⟩
        simp only [g1, zo0, zo121, am_gd_t, p1, am_bd_s, p2, if_true, q]
      rw [if_neg c24]
      by_cases c25 : (((am_kc xs 8).getD (nI i).toNatClampNeg 0) &&& (63 : Int32)) = 25
      · rw [if_pos c25]
        obtain ⟨r, lp1, M1, M2, p1, p2, p3⟩ := P_text  lp M hI
        obtain ⟨lp', M', q⟩ := go lp1 M2 p3
        refine ⟨lp', M', ?_⟩
        simp only [zo0, zo121, am_gd_t, p1, am_bd_s, p2, if_true, q]
      rw [if_neg c25]
      by_cases c26 : (((am_kc xs 8).getD (nI i).toNatClampNeg 0) &&& (63 : Int32)) = 26
      · rw [if_pos c26]
        obtain ⟨r, lp1, M1, M2, p1, p2, p3⟩ := P_textTold ((am_kc xs 8).getD (nI i + (1 : Int32)).toNatClampNeg 0) ((am_kc xs 8).getD (nI i + (2 : Int32)).toNatClampNeg 0) lp M hI
        obtain ⟨lp', M', q⟩ := go lp1 M2 p3
        refine ⟨lp', M', ?_⟩
        simp only [g1, g2, zo0, zo121, am_gd_t, p1, am_bd_s, p2, if_true, q]
      rw [if_neg c26]
      by_cases c27 : (((am_kc xs 8).getD (nI i).toNatClampNeg 0) &&& (63 : Int32)) = 27
      · rw [if_pos c27]
        obtain ⟨r, lp1, M1, M2, p1, p2, p3⟩ := P_why ((am_kc xs 8).getD (nI i + (1 : Int32)).toNatClampNeg 0) lp M hI
        obtain ⟨lp', M', q⟩ := go lp1 M2 p3
        refine ⟨lp', M', ?_⟩
        simp only [g1, zo0, zo121, am_gd_t, p1, am_bd_s, p2, if_true, q]
      rw [if_neg c27]
      by_cases c28 : (((am_kc xs 8).getD (nI i).toNatClampNeg 0) &&& (63 : Int32)) = 28
      · rw [if_pos c28]
        obtain ⟨r, lp1, M1, M2, p1, p2, p3⟩ := P_sheet ((am_kc xs 8).getD (nI i + (1 : Int32)).toNatClampNeg 0) ((am_kc xs 8).getD (nI i + (2 : Int32)).toNatClampNeg 0) ((am_kc xs 8).getD (nI i + (3 : Int32)).toNatClampNeg 0) lp M hI
        obtain ⟨lp', M', q⟩ := go lp1 M2 p3
        refine ⟨lp', M', ?_⟩
        simp only [g1, g2, g3, zo0, zo121, am_gd_t, p1, am_bd_s, p2, if_true, q]
      rw [if_neg c28]
      by_cases c29 : (((am_kc xs 8).getD (nI i).toNatClampNeg 0) &&& (63 : Int32)) = 29
      · rw [if_pos c29]
        obtain ⟨r, lp1, M1, M2, p1, p2, p3⟩ := P_mark ((am_kc xs 8).getD (nI i + (1 : Int32)).toNatClampNeg 0) ((am_kc xs 8).getD (nI i + (2 : Int32)).toNatClampNeg 0) ((am_kc xs 8).getD (nI i + (3 : Int32)).toNatClampNeg 0) lp M hI
        obtain ⟨lp', M', q⟩ := go lp1 M2 p3
        refine ⟨lp', M', ?_⟩
        simp only [g1, g2, g3, zo0, zo121, am_gd_t, p1, am_bd_s, p2, if_true, q]
      rw [if_neg c29]
      by_cases c30 : (((am_kc xs 8).getD (nI i).toNatClampNeg 0) &&& (63 : Int32)) = 30
      · rw [if_pos c30]
        obtain ⟨r, lp1, M1, M2, p1, p2, p3⟩ := P_pour ((am_kc xs 8).getD (nI i + (1 : Int32)).toNatClampNeg 0) lp M hI
        obtain ⟨lp', M', q⟩ := go lp1 M2 p3
        refine ⟨lp', M', ?_⟩
        simp only [g1, zo0, zo121, am_gd_t, p1, am_bd_s, p2, if_true, q]
      rw [if_neg c30]
      by_cases c31 : (((am_kc xs 8).getD (nI i).toNatClampNeg 0) &&& (63 : Int32)) = 31
      · rw [if_pos c31]
        obtain ⟨r, lp1, M1, M2, p1, p2, p3⟩ := P_reads ((am_kc xs 8).getD (nI i + (1 : Int32)).toNatClampNeg 0) lp M hI
        obtain ⟨lp', M', q⟩ := go lp1 M2 p3
        refine ⟨lp', M', ?_⟩
        simp only [g1, zo0, zo121, am_gd_t, p1, am_bd_s, p2, if_true, q]
      rw [if_neg c31]
      by_cases c32 : (((am_kc xs 8).getD (nI i).toNatClampNeg 0) &&& (63 : Int32)) = 32
      · rw [if_pos c32]
        obtain ⟨r, lp1, M1, M2, p1, p2, p3⟩ := P_copy ((am_kc xs 8).getD (nI i + (1 : Int32)).toNatClampNeg 0) ((am_kc xs 8).getD (nI i + (2 : Int32)).toNatClampNeg 0) ((am_kc xs 8).getD (nI i + (3 : Int32)).toNatClampNeg 0) ((am_kc xs 8).getD (nI i + (4 : Int32)).toNatClampNeg 0) ((am_kc xs 8).getD (nI i + (5 : Int32)).toNatClampNeg 0) lp M hI
        obtain ⟨lp', M', q⟩ := go lp1 M2 p3
        refine ⟨lp', M', ?_⟩
        simp only [g1, g2, g3, g4, g5, zo0, zo121, am_gd_t, p1, am_bd_s, p2, if_true, q]
      rw [if_neg c32]
      by_cases c33 : (((am_kc xs 8).getD (nI i).toNatClampNeg 0) &&& (63 : Int32)) = 33
      · rw [if_pos c33]
        obtain ⟨r, lp1, M1, M2, p1, p2, p3⟩ := P_lay ((am_kc xs 8).getD (nI i + (1 : Int32)).toNatClampNeg 0) ((am_kc xs 8).getD (nI i + (2 : Int32)).toNatClampNeg 0) ((am_kc xs 8).getD (nI i + (3 : Int32)).toNatClampNeg 0) lp M hI
        obtain ⟨lp', M', q⟩ := go lp1 M2 p3
        refine ⟨lp', M', ?_⟩
        simp only [g1, g2, g3, zo0, zo121, am_gd_t, p1, am_bd_s, p2, if_true, q]
      rw [if_neg c33]
      by_cases c34 : (((am_kc xs 8).getD (nI i).toNatClampNeg 0) &&& (63 : Int32)) = 34
      · rw [if_pos c34]
        obtain ⟨r, lp1, M1, M2, p1, p2, p3⟩ := P_ask ((am_kc xs 8).getD (nI i + (1 : Int32)).toNatClampNeg 0) ((am_kc xs 8).getD (nI i + (2 : Int32)).toNatClampNeg 0) lp M hI
        obtain ⟨lp', M', q⟩ := go lp1 M2 p3
        refine ⟨lp', M', ?_⟩
        simp only [g1, g2, zo0, zo121, am_gd_t, p1, am_bd_s, p2, if_true, q]
      rw [if_neg c34]
      by_cases c35 : (((am_kc xs 8).getD (nI i).toNatClampNeg 0) &&& (63 : Int32)) = 35
      · rw [if_pos c35]
        obtain ⟨r, lp1, M1, M2, p1, p2, p3⟩ := P_item ((am_kc xs 8).getD (nI i + (1 : Int32)).toNatClampNeg 0) ((am_kc xs 8).getD (nI i + (2 : Int32)).toNatClampNeg 0) lp M hI
        obtain ⟨lp', M', q⟩ := go lp1 M2 p3
        refine ⟨lp', M', ?_⟩
        simp only [g1, g2, zo0, zo121, am_gd_t, p1, am_bd_s, p2, if_true, q]
      rw [if_neg c35]
      by_cases c36 : (((am_kc xs 8).getD (nI i).toNatClampNeg 0) &&& (63 : Int32)) = 36
      · rw [if_pos c36]
        obtain ⟨r, lp1, M1, M2, p1, p2, p3⟩ := P_rest ((am_kc xs 8).getD (nI i + (1 : Int32)).toNatClampNeg 0) ((am_kc xs 8).getD (nI i + (2 : Int32)).toNatClampNeg 0) lp M hI
        obtain ⟨lp', M', q⟩ := go lp1 M2 p3
        refine ⟨lp', M', ?_⟩
        simp only [g1, g2, zo0, zo121, am_gd_t, p1, am_bd_s, p2, if_true, q]
      rw [if_neg c36]
      by_cases c37 : (((am_kc xs 8).getD (nI i).toNatClampNeg 0) &&& (63 : Int32)) = 37
      · rw [if_pos c37]
        obtain ⟨r, lp1, M1, M2, p1, p2, p3⟩ := P_tell ((am_kc xs 8).getD (nI i + (1 : Int32)).toNatClampNeg 0) lp M hI
        obtain ⟨lp', M', q⟩ := go lp1 M2 p3
        refine ⟨lp', M', ?_⟩
        simp only [g1, zo0, zo121, am_gd_t, p1, am_bd_s, p2, if_true, q]
      rw [if_neg c37]
      by_cases c38 : (((am_kc xs 8).getD (nI i).toNatClampNeg 0) &&& (63 : Int32)) = 38
      · rw [if_pos c38]
        obtain ⟨r, lp1, M1, M2, p1, p2, p3⟩ := P_check ((am_kc xs 8).getD (nI i + (1 : Int32)).toNatClampNeg 0) lp M hI
        obtain ⟨lp', M', q⟩ := go lp1 M2 p3
        refine ⟨lp', M', ?_⟩
        simp only [g1, zo0, zo121, am_gd_t, p1, am_bd_s, p2, if_true, q]
      rw [if_neg c38]
      by_cases c39 : (((am_kc xs 8).getD (nI i).toNatClampNeg 0) &&& (63 : Int32)) = 39
      · rw [if_pos c39]
        obtain ⟨r, lp1, M1, M2, p1, p2, p3⟩ := P_keep  lp M hI
        obtain ⟨lp', M', q⟩ := go lp1 M2 p3
        refine ⟨lp', M', ?_⟩
        simp only [zo0, zo121, am_gd_t, p1, am_bd_s, p2, if_true, q]
      rw [if_neg c39]
      by_cases c40 : (((am_kc xs 8).getD (nI i).toNatClampNeg 0) &&& (63 : Int32)) = 40
      · rw [if_pos c40]
        obtain ⟨r, lp1, M1, M2, p1, p2, p3⟩ := P_back  lp M hI
        obtain ⟨lp', M', q⟩ := go lp1 M2 p3
        refine ⟨lp', M', ?_⟩
        simp only [zo0, zo121, am_gd_t, p1, am_bd_s, p2, if_true, q]
      rw [if_neg c40]
      by_cases c41 : (((am_kc xs 8).getD (nI i).toNatClampNeg 0) &&& (63 : Int32)) = 41
      · rw [if_pos c41]
        obtain ⟨r, lp1, M1, M2, p1, p2, p3⟩ := P_count ((am_kc xs 8).getD (nI i + (1 : Int32)).toNatClampNeg 0) lp M hI
        obtain ⟨lp', M', q⟩ := go lp1 M2 p3
        refine ⟨lp', M', ?_⟩
        simp only [g1, zo0, zo121, am_gd_t, p1, am_bd_s, p2, if_true, q]
      rw [if_neg c41]
      exact go lp M hI
    · refine ⟨lp, M, ?_⟩
      have hc : (Int32.ofNat (am_kc xs 8).length - 6 : Int32) < nI i := by
        show (nI xs.length - 6 : Int32) < nI i
        rw [Int32.lt_iff_toInt_lt, show (6 : Int32) = nI 6 from rfl, pk_sub_toInt (by omega) (by decide), nI_toInt (by omega)]
        omega
      rw [fxL_law_b18, if_pos hc]
      rfl
theorem am_main (xs : List Int32) (hL : xs.length ≤ 384) : ∃ h2 : am_H, fxL_law xs am_h0 = some (1, h2) := by
  obtain ⟨h2, M0, e1, e2, e3, hI⟩ := ini_hp
  obtain ⟨lp', M', q⟩ := law_go hL 65 0 am_F 81 M0 hI (by omega) (by unfold am_F; omega) (by omega)
  refine ⟨hp lp' M', ?_⟩
  have e1 : fxX9_init (some am_h0.1) (am_nw am_h0 (.inr 9)) = some ((), h2) := e1
  rw [← e2] at e3
  unfold fxL_law
  simp only [am_lt_e, Option.isSome_some, am_gd_t, e1, am_bd_s, e3]
  rw [e2]
  exact q
