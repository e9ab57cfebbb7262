/-! ===== what stands at the law's entry ===== -/
theorem am_fitA {s : State} : ∀ a : Nat, a < s.heap.size → ¬ am_A s.heap.size a := fun a h h2 => Nat.not_le.mpr h h2
theorem am_arrP {args : Array Value} {s : State} {ty : FieldType} (h : (Cond.arrayClass ty).before args s = true) (hp : ∀ n, ty ≠ .object n) : ∃ cA : ClassId, ArrOfT s cA ty ∧ va_RA s cA ty := by
  obtain ⟨c, k, comp, h1, h2, h3⟩ := Cond.arrayClass_spec h
  refine ⟨c, fun n z => ⟨fun k h => (by cases h), k, h2, comp, h3⟩, ?_⟩
  cases ty with
  | object n => exact absurd rfl (hp n)
  | _ => exact h1
theorem am_arrO {args : Array Value} {s : State} {n : String} (h : (Cond.arrayOver (.object n)).before args s = true) : ∃ cA : ClassId, ArrOfT s cA (.object n) ∧ va_RA s cA (.object n) := by
  obtain ⟨comp, c, k, h1, h2, h3, h4, h5⟩ := Cond.arrayOver_spec h
  exact ⟨c, fun N z => ⟨fun k h => (by cases h), k, h3, comp, h4⟩, k, comp, h3, h4, h1, h5⟩
set_option maxRecDepth 100000 in
theorem am_strs {s : State} {b : Nat} (hs : ∀ w, w ∈ flatC (Jvm.Cond.and given_1 narrow_1) → w.before #[Value.ref b] s = true) : ∃ adK adV : Nat → Nat, vk_S 6 am_kl am_kb adK adV (am_A s.heap.size) s s.heap ∧ ∀ i : Nat, i < 6 → (Term.string "TwoGuilds$Tape" (am_kp i)).eval #[Value.ref b] s none [] s = some (.ref (adK i)) := by
  refine vk_Sof (tm := fun i => Term.string "TwoGuilds$Tape" (am_kp i)) ?_ ?_ ?_ ?_ ?_ ?_ ?_ am_fitA
  · intro i hi
    rcases (show i = 0 ∨ i = 1 ∨ i = 2 ∨ i = 3 ∨ i = 4 ∨ i = 5 by omega) with rfl | rfl | rfl | rfl | rfl | rfl <;> decide
  · intro i hi
    rcases (show i = 0 ∨ i = 1 ∨ i = 2 ∨ i = 3 ∨ i = 4 ∨ i = 5 by omega) with rfl | rfl | rfl | rfl | rfl | rfl <;> exact hs _ (by decide +kernel)
  · intro i hi
    rcases (show i = 0 ∨ i = 1 ∨ i = 2 ∨ i = 3 ∨ i = 4 ∨ i = 5 by omega) with rfl | rfl | rfl | rfl | rfl | rfl <;> exact hs _ (by decide +kernel)
  · intro i hi
    rcases (show i = 0 ∨ i = 1 ∨ i = 2 ∨ i = 3 ∨ i = 4 ∨ i = 5 by omega) with rfl | rfl | rfl | rfl | rfl | rfl <;> exact hs _ (by decide +kernel)
  · intro i hi
    rcases (show i = 0 ∨ i = 1 ∨ i = 2 ∨ i = 3 ∨ i = 4 ∨ i = 5 by omega) with rfl | rfl | rfl | rfl | rfl | rfl <;> exact hs _ (by decide +kernel)
  · intro i hi j hj
    have hj4 : j < 4 := by
      rcases (show i = 0 ∨ i = 1 ∨ i = 2 ∨ i = 3 ∨ i = 4 ∨ i = 5 by omega) with rfl | rfl | rfl | rfl | rfl | rfl <;> simp [am_kl] at hj <;> omega
    rcases (show i = 0 ∨ i = 1 ∨ i = 2 ∨ i = 3 ∨ i = 4 ∨ i = 5 by omega) with rfl | rfl | rfl | rfl | rfl | rfl <;> rcases (show j = 0 ∨ j = 1 ∨ j = 2 ∨ j = 3 by omega) with rfl | rfl | rfl | rfl <;> first | exact hs _ (by decide +kernel) | (exfalso; simp [am_kl] at hj)
  · intro i j hi hj hij
    rcases (show i = 0 ∨ i = 1 ∨ i = 2 ∨ i = 3 ∨ i = 4 ∨ i = 5 by omega) with rfl | rfl | rfl | rfl | rfl | rfl <;> rcases (show j = 0 ∨ j = 1 ∨ j = 2 ∨ j = 3 ∨ j = 4 ∨ j = 5 by omega) with rfl | rfl | rfl | rfl | rfl | rfl <;> first | exact absurd rfl hij | exact Or.inl (hs _ (by decide +kernel)) | exact Or.inr (hs _ (by decide +kernel))
set_option maxRecDepth 100000 in
theorem am_begin {p : Program} {s : State} {m : MethodId} {meth : Method} {c : Code} {b L : Nat} {xs : Nat → Int32} (hL : L ≤ 384) (C0 : lw_At p s m meth c b L xs) : ∃ (kd : Nat → Option Nat) (ka : Nat → Nat) (D : va_G) (cA : Nat → ClassId), am_Cx ((List.range L).map xs) mL_law 603 p room_1 s m #[Value.ref b] meth c s.heap.size kd ka D cA ∧ kd 8 = some b := by
  obtain ⟨hx, hb, hr, hml, hown, hts, hX, hbl, hlocks, hgv⟩ := id C0
  have hs := flat_of_before _ hgv
  have hgw : ∀ w ∈ am_gw, w.before #[Value.ref b] s = true := fun w hw => hts w (List.mem_filter.mp hw).1
  -- constants
  obtain ⟨t0, e0, T0⟩ := va_Tof (tm := .static "TwoGuilds" "KIND_ABOVE" "[I") (ty := .int) (N := 6) (f := fun j => .int ((am_kc [] 0).getD j 0)) (A := am_A s.heap.size) (args := #[Value.ref b]) (s := s) (by decide) (hs _ (by decide +kernel)) (va_eqt (hs _ (by decide +kernel))) (fun j hj => by
    rcases (show j = 0 ∨ j = 1 ∨ j = 2 ∨ j = 3 ∨ j = 4 ∨ j = 5 by omega) with rfl | rfl | rfl | rfl | rfl | rfl <;> exact va_eqt (hs _ (by decide +kernel))) am_fitA
  obtain ⟨t1, e1, T1⟩ := va_Tof (tm := .static "TwoGuildsModel" "FIVES" "[I") (ty := .int) (N := 5) (f := fun j => .int ((am_kc [] 1).getD j 0)) (A := am_A s.heap.size) (args := #[Value.ref b]) (s := s) (by decide) (hs _ (by decide +kernel)) (va_eqt (hs _ (by decide +kernel))) (fun j hj => by
    rcases (show j = 0 ∨ j = 1 ∨ j = 2 ∨ j = 3 ∨ j = 4 by omega) with rfl | rfl | rfl | rfl | rfl <;> exact va_eqt (hs _ (by decide +kernel))) am_fitA
  have z0 := va_Zof (A := am_A s.heap.size) (hts (.laysStatic "TwoGuilds" "KIND_ABOVE" "[I") (by decide +kernel)) (hts (.initialized "TwoGuilds") (by decide +kernel)) e0 am_fitA
  have z1 := va_Zof (A := am_A s.heap.size) (hts (.laysStatic "TwoGuildsModel" "FIVES" "[I") (by decide +kernel)) (hts (.initialized "TwoGuildsModel") (by decide +kernel)) e1 am_fitA
  have z2 := va_Zof (A := am_A s.heap.size) (v := .int 1) (hts (.laysStatic "java/lang/String" "COMPACT_STRINGS" "Z") (by decide +kernel)) (hts (.initialized "java/lang/String") (by decide +kernel)) (va_eqi (hs _ (by decide +kernel))) am_fitA
  have z3 := va_Zqof (A := am_A s.heap.size) (C := "jdk/internal/util/Preconditions") (n := "SIOOBE_FORMATTER") (d := "Ljava/util/function/BiFunction;") (hts (.laysStatic "jdk/internal/util/Preconditions" "SIOOBE_FORMATTER" "Ljava/util/function/BiFunction;") (by decide +kernel)) (hts (.initialized "jdk/internal/util/Preconditions") (by decide +kernel)) (hs _ (by decide +kernel)) am_fitA
  obtain ⟨fm, z3⟩ : ∃ fm : Option Nat, va_Z "jdk/internal/util/Preconditions" "SIOOBE_FORMATTER" "Ljava/util/function/BiFunction;" (va_rf fm) (am_A s.heap.size) s s.heap := by
    rcases z3 with z | ⟨t, z⟩
    · exact ⟨none, z⟩
    · exact ⟨some t, z⟩
  obtain ⟨adK, adV, hvS, hev⟩ := am_strs hs
  -- classes
  obtain ⟨c0, iS0, hKn0⟩ := u_known (C := RX0) (T := TX0) (N := 3) (n := 3) hgw am_inX0 (hts (.instantiable RX0 3) (by decide +kernel))
  obtain ⟨c1, iS1, hKn1⟩ := u_known (C := RX1) (T := TX1) (N := 6) (n := 6) hgw am_inX1 (hts (.instantiable RX1 6) (by decide +kernel))
  obtain ⟨c2, iS2, hKn2⟩ := u_known (C := RX2) (T := TX2) (N := 10) (n := 10) hgw am_inX2 (hts (.instantiable RX2 10) (by decide +kernel))
  obtain ⟨c3, iS3, hKn3⟩ := u_known (C := RX3) (T := TX3) (N := 4) (n := 4) hgw am_inX3 (hts (.instantiable RX3 4) (by decide +kernel))
  obtain ⟨c4, iS4, hKn4⟩ := u_known (C := RX4) (T := TX4) (N := 3) (n := 3) hgw am_inX4 (hts (.instantiable RX4 3) (by decide +kernel))
  obtain ⟨c5, iS5, hKn5⟩ := u_known (C := RX5) (T := TX5) (N := 3) (n := 3) hgw am_inX5 (hts (.instantiable RX5 3) (by decide +kernel))
  obtain ⟨c6, iS6, hKn6⟩ := u_known (C := RX6) (T := TX6) (N := 4) (n := 4) hgw am_inX6 (hts (.instantiable RX6 4) (by decide +kernel))
  obtain ⟨c7, iS7, hKn7⟩ := u_known (C := RX7) (T := TX7) (N := 4) (n := 4) hgw am_inX7 (hts (.instantiable RX7 4) (by decide +kernel))
  obtain ⟨c8, iS8, hKn8⟩ := u_known (C := RX8) (T := TX8) (N := 7) (n := 7) hgw am_inX8 (hts (.instantiable RX8 7) (by decide +kernel))
  obtain ⟨c9, iS9, hKn9⟩ := u_known (C := RX9) (T := TX9) (N := 12) (n := 12) hgw am_inX9 (hts (.instantiable RX9 12) (by decide +kernel))
  obtain ⟨c10, iS10, hKn10⟩ := u_known (C := RX10) (T := TX10) (N := 36) (n := 36) hgw am_inX10 (hts (.instantiable RX10 36) (by decide +kernel))
  obtain ⟨dC, dI, hKc⟩ : ∃ (dC : Nat → ClassId) (dI : Nat → Nat → Nat), ∀ (k : Nat) (q : vw_C), am_cl[k]? = some q → u_Kn s q.1 q.2.1 q.2.2 (dC k) (dI k) := by
    refine ⟨fun k => if k = 0 then c0 else if k = 1 then c1 else if k = 2 then c2 else if k = 3 then c3 else if k = 4 then c4 else if k = 5 then c5 else if k = 6 then c6 else if k = 7 then c7 else if k = 8 then c8 else if k = 9 then c9 else c10, fun k => if k = 0 then iS0 else if k = 1 then iS1 else if k = 2 then iS2 else if k = 3 then iS3 else if k = 4 then iS4 else if k = 5 then iS5 else if k = 6 then iS6 else if k = 7 then iS7 else if k = 8 then iS8 else if k = 9 then iS9 else iS10, ?_⟩
    intro k q hq
    match k, hq with
    | 0, hq => cases hq; exact hKn0
    | 1, hq => cases hq; exact hKn1
    | 2, hq => cases hq; exact hKn2
    | 3, hq => cases hq; exact hKn3
    | 4, hq => cases hq; exact hKn4
    | 5, hq => cases hq; exact hKn5
    | 6, hq => cases hq; exact hKn6
    | 7, hq => cases hq; exact hKn7
    | 8, hq => cases hq; exact hKn8
    | 9, hq => cases hq; exact hKn9
    | 10, hq => cases hq; exact hKn10
    | k + 11, hq => simp [am_cl] at hq
  obtain ⟨a0, hA0⟩ := am_arrP (ty := .int) (hts (.arrayClass .int) (by decide +kernel)) (fun n h => by cases h)
  obtain ⟨a1, hA1⟩ := am_arrP (ty := .char) (hts (.arrayClass .char) (by decide +kernel)) (fun n h => by cases h)
  obtain ⟨a2, hA2⟩ := am_arrP (ty := .boolean) (hts (.arrayClass .boolean) (by decide +kernel)) (fun n h => by cases h)
  obtain ⟨a3, hA3⟩ := am_arrO (n := RX1) (hts (.arrayOver (.object RX1)) (by decide +kernel))
  obtain ⟨a4, hA4⟩ := am_arrO (n := RX3) (hts (.arrayOver (.object RX3)) (by decide +kernel))
  obtain ⟨a5, hA5⟩ := am_arrO (n := RX5) (hts (.arrayOver (.object RX5)) (by decide +kernel))
  obtain ⟨a6, hA6⟩ := am_arrO (n := RX6) (hts (.arrayOver (.object RX6)) (by decide +kernel))
  have hK : va_K (dC, dI) am_cl (am_ty (fun t => if t = 0 then a0 else if t = 1 then a1 else if t = 2 then a2 else if t = 3 then a3 else if t = 4 then a4 else if t = 5 then a5 else a6)) s := by
    refine ⟨hKc, fun k q hq => ?_⟩
    match k, hq with
    | 0, hq => cases hq; exact hA0
    | 1, hq => cases hq; exact hA1
    | 2, hq => cases hq; exact hA2
    | 3, hq => cases hq; exact hA3
    | 4, hq => cases hq; exact hA4
    | 5, hq => cases hq; exact hA5
    | 6, hq => cases hq; exact hA6
    | k + 7, hq => simp [am_ty] at hq
  refine ⟨fun c => if c = 20 then fm else some (if c = 0 then t0 else if c = 1 then t1 else if c = 8 then b else if c < 8 then adK (c - 2) else adV (c - 12)), fun c => if c = 0 then t0 else if c = 1 then t1 else if c = 8 then b else if c < 8 then adK (c - 2) else adV (c - 12), (dC, dI), _, ⟨hx, hb, hml, hown, hgw, hr, hlocks, (fun hi => absurd hi (by decide)), by decide, by decide, ?_, hK⟩, rfl⟩
  refine ⟨Nat.le_refl _, fun n hn => ?_, va_Nw.of rfl (hts _ (by decide +kernel)), ⟨va_AO.of (hts _ (by decide +kernel)), va_AO.of (hts _ (by decide +kernel)), va_AO.of (hts _ (by decide +kernel)), va_AO.of (hts _ (by decide +kernel))⟩, fun c hc => ?_, ⟨z0, z1, z2, z3⟩, ⟨T0, T1, ?_⟩, fun i hi => ?_, ?_⟩
  · rcases (show n = 0 ∨ n = 1 ∨ n = 2 ∨ n = 3 ∨ n = 4 ∨ n = 5 ∨ n = 6 ∨ n = 7 by omega) with rfl | rfl | rfl | rfl | rfl | rfl | rfl | rfl <;> exact va_Nw.of rfl (hts _ (by decide +kernel))
  · simp [show c ≠ 20 by omega]
  · obtain ⟨scr, w1, w2, w3, w4, w5⟩ := hX
    refine ⟨scr, w1, w2, w3, by simp [w4], by simp [w4], fun j hj => ?_, am_fitA b hbl⟩
    have hj : j < L := by simpa using hj
    rw [w5 j hj]
    simp [hj]
  · rcases (show i = 0 ∨ i = 1 ∨ i = 2 ∨ i = 3 ∨ i = 4 ∨ i = 5 by omega) with rfl | rfl | rfl | rfl | rfl | rfl <;> exact vk_R.of (hts _ (by decide +kernel)) (hev _ (by decide))
  · refine ⟨fun i hi => ?_, fun i j hi hj e => ?_⟩
    · have h1 := hvS.1 i hi
      rcases (show i = 0 ∨ i = 1 ∨ i = 2 ∨ i = 3 ∨ i = 4 ∨ i = 5 by omega) with rfl | rfl | rfl | rfl | rfl | rfl <;> exact h1
    · refine hvS.2 i j hi hj ?_
      rcases (show i = 0 ∨ i = 1 ∨ i = 2 ∨ i = 3 ∨ i = 4 ∨ i = 5 by omega) with rfl | rfl | rfl | rfl | rfl | rfl <;> rcases (show j = 0 ∨ j = 1 ∨ j = 2 ∨ j = 3 ∨ j = 4 ∨ j = 5 by omega) with rfl | rfl | rfl | rfl | rfl | rfl <;> exact e
