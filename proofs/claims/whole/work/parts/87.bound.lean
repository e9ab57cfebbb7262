/-! ===== nothing lies beyond what the constructors made ===== -/
def Bd (h : am_H) : Prop := (∀ k, h.1 ≤ k → h.2.1 k = .inr 0 ∧ ∀ j, h.2.2.2 k j = none) ∧ (∀ k j, 36 ≤ j → h.2.2.2 k j = none) ∧ (∀ k q, h.2.1 k = .inl q → 3 ≤ q.1 → q.2 ≤ 36)
theorem Bd_nw {h : am_H} {sh : am_S} (hb : Bd h) (hs : ∀ q, sh = .inl q → 3 ≤ q.1 → q.2 ≤ 36) : Bd (am_nw h sh) := by
  obtain ⟨b1, b2, b3⟩ := hb
  refine ⟨fun k hk => ?_, fun k j hj => ?_, fun k q hq => ?_⟩
  · have hk : h.1 + 1 ≤ k := hk
    have hne : ¬ k = h.1 := by omega
    have e1 : (am_nw h sh).2.1 k = h.2.1 k := if_neg hne
    have e2 : (am_nw h sh).2.2.2 k = h.2.2.2 k := if_neg hne
    rw [e1, e2]
    exact b1 k (by omega)
  · by_cases hne : k = h.1
    · have e2 : (am_nw h sh).2.2.2 k = (fun _ => none) := if_pos hne
      rw [e2]
    · have e2 : (am_nw h sh).2.2.2 k = h.2.2.2 k := if_neg hne
      rw [e2]; exact b2 k j hj
  · by_cases hne : k = h.1
    · have e1 : (am_nw h sh).2.1 k = sh := if_pos hne
      rw [e1] at hq; exact hs q hq
    · have e1 : (am_nw h sh).2.1 k = h.2.1 k := if_neg hne
      rw [e1] at hq; exact b3 k q hq
theorem Bd_sr {h : am_H} {r : Option Nat} {j : Nat} {v : Option Nat} (hb : Bd h) (hr : ∃ k, r = some k ∧ k < h.1) (hj : j < 36) : Bd (am_sr h r j v) := by
  obtain ⟨b1, b2, b3⟩ := hb
  obtain ⟨k0, rfl, hk0⟩ := hr
  have e : ∀ k i, (am_sr h (some k0) j v).2.2.2 k i = if k = k0 then (if i = j then v else h.2.2.2 k i) else h.2.2.2 k i := fun k i => rfl
  refine ⟨fun k hk => ⟨(b1 k hk).1, fun i => ?_⟩, fun k i hi => ?_, b3⟩
  · have hk : h.1 ≤ k := hk
    rw [e, if_neg (by omega)]; exact (b1 k hk).2 i
  · rw [e]
    by_cases q : k = k0
    · rw [if_pos q, if_neg (by omega)]; exact b2 k i hi
    · rw [if_neg q]; exact b2 k i hi
def Pz {γ : Type} (x : Option (γ × am_H)) : Prop := ∀ a h', x = some (a, h') → Bd h'
theorem Pz_some {γ : Type} {a : γ} {h : am_H} (hb : Bd h) : Pz (some (a, h)) := fun a' h' e => by
  cases e; exact hb
theorem Pz_none {γ : Type} : Pz (none : Option (γ × am_H)) := fun a' h' e => by cases e
theorem Pz_gd {γ : Type} {g : Bool} {k : Option (γ × am_H)} (h : g = true → Pz k) : Pz (am_gd g k) := fun a' h' e => by
  unfold am_gd at e
  split at e
  · next q => exact h q a' h' e
  · cases e
theorem Pz_lt {γ : Type} {v : Int32} {k : Int32 → Option (γ × am_H)} (h : Pz (k v)) : Pz (am_lt v k) := h
theorem Pz_nw {γ : Type} {h : am_H} {q : Nat × Nat} {k : am_H → Option (γ × am_H)} (hb : Bd h) (hs : ∀ q', (Sum.inl q : am_S) = .inl q' → 3 ≤ q'.1 → q'.2 ≤ 36) (hk : ∀ h', Bd h' → Pz (k h')) : Pz (am_lt (am_nw h (.inl q)) k) := hk _ (Bd_nw hb hs)
theorem Pz_nwo {γ : Type} {h : am_H} {c : Nat} {k : am_H → Option (γ × am_H)} (hb : Bd h) (hk : ∀ h', Bd h' → Pz (k h')) : Pz (am_lt (am_nw h (.inr c)) k) := hk _ (Bd_nw hb (fun q e => by cases e))
theorem Pz_si {γ : Type} {h : am_H} {r : Option Nat} {j : Nat} {v : Int32} {k : am_H → Option (γ × am_H)} (hb : Bd h) (hk : ∀ h', Bd h' → Pz (k h')) : Pz (am_lt (am_si h r j v) k) := hk _ hb
theorem Pz_sr {γ : Type} {h : am_H} {r : Option Nat} {ci j : Nat} {v : Option Nat} {k : am_H → Option (γ × am_H)} (hb : Bd h) (g : am_ob h r ci = true) (hj : j < 36) (hk : ∀ h', Bd h' → Pz (k h')) : Pz (am_lt (am_sr h r j v) k) := by
  obtain ⟨k0, e1, e2, -⟩ := am_ob_spec g
  exact hk _ (Bd_sr hb ⟨k0, e1, e2⟩ hj)
theorem Pz_srx {γ : Type} {h : am_H} {r : Option Nat} {t : Nat} {i : Int32} {g : Bool} {v : Option Nat} {k : am_H → Option (γ × am_H)} (hb : Bd h) (hg : (am_ix h r t i && g) = true) (ht : 3 ≤ t) (hk : ∀ h', Bd h' → Pz (k h')) : Pz (am_lt (am_sr h r i.toNatClampNeg v) k) := by
  have hg1 : am_ix h r t i = true := (Bool.and_eq_true _ _ ▸ hg).1
  obtain ⟨k0, n, e1, e2, e3, e4⟩ := am_ix_spec hg1
  have hle := hb.2.2 k0 (t, n) e3 ht
  have : i.toNatClampNeg < n := Nat.lt_of_not_le (fun q => e4 (Or.inr q))
  have hle : n ≤ 36 := hle
  exact hk _ (Bd_sr hb ⟨k0, e1, e2⟩ (by omega))
theorem Pz_bd {γ δ : Type} {x : Option (δ × am_H)} {k : δ → am_H → Option (γ × am_H)} (hx : Pz x) (hk : ∀ a h', Bd h' → Pz (k a h')) : Pz (am_bd x k) := fun a' h' e => by
  unfold am_bd at e
  split at e
  · cases e
  · next a h2 => exact hk _ _ (hx _ _ rfl) a' h' e
theorem bz_X1 {l0 : Option Nat} {h : am_H} (hb : Bd h) : Pz (fxX1_init l0 h) := by
  unfold fxX1_init
  repeat' first
    | with_reducible exact Pz_some (by assumption)
    | with_reducible exact Pz_none
    | (with_reducible refine Pz_gd fun _ => ?_)
    | (with_reducible refine Pz_nw (by assumption) (by intro q e h3; cases e; revert h3; decide) fun _ _ => ?_)
    | (with_reducible refine Pz_nwo (by assumption) fun _ _ => ?_)
    | (with_reducible refine Pz_si (by assumption) fun _ _ => ?_)
    | (with_reducible refine Pz_sr (by assumption) (by assumption) (by decide) fun _ _ => ?_)
    | (with_reducible refine Pz_srx (by assumption) (by assumption) (by decide) fun _ _ => ?_)
    | (with_reducible refine Pz_lt ?_)
    
    | split
theorem bz_X3 {l0 : Option Nat} {h : am_H} (hb : Bd h) : Pz (fxX3_init l0 h) := by
  unfold fxX3_init
  repeat' first
    | with_reducible exact Pz_some (by assumption)
    | with_reducible exact Pz_none
    | (with_reducible refine Pz_gd fun _ => ?_)
    | (with_reducible refine Pz_nw (by assumption) (by intro q e h3; cases e; revert h3; decide) fun _ _ => ?_)
    | (with_reducible refine Pz_nwo (by assumption) fun _ _ => ?_)
    | (with_reducible refine Pz_si (by assumption) fun _ _ => ?_)
    | (with_reducible refine Pz_sr (by assumption) (by assumption) (by decide) fun _ _ => ?_)
    | (with_reducible refine Pz_srx (by assumption) (by assumption) (by decide) fun _ _ => ?_)
    | (with_reducible refine Pz_lt ?_)
    
    | split
theorem bz_X5 {l0 : Option Nat} {h : am_H} (hb : Bd h) : Pz (fxX5_init l0 h) := by
  unfold fxX5_init
  repeat' first
    | with_reducible exact Pz_some (by assumption)
    | with_reducible exact Pz_none
    | (with_reducible refine Pz_gd fun _ => ?_)
    | (with_reducible refine Pz_nw (by assumption) (by intro q e h3; cases e; revert h3; decide) fun _ _ => ?_)
    | (with_reducible refine Pz_nwo (by assumption) fun _ _ => ?_)
    | (with_reducible refine Pz_si (by assumption) fun _ _ => ?_)
    | (with_reducible refine Pz_sr (by assumption) (by assumption) (by decide) fun _ _ => ?_)
    | (with_reducible refine Pz_srx (by assumption) (by assumption) (by decide) fun _ _ => ?_)
    | (with_reducible refine Pz_lt ?_)
    
    | split
theorem bz_X7 {l0 : Option Nat} {h : am_H} (hb : Bd h) : Pz (fxX7_init l0 h) := by
  unfold fxX7_init
  repeat' first
    | with_reducible exact Pz_some (by assumption)
    | with_reducible exact Pz_none
    | (with_reducible refine Pz_gd fun _ => ?_)
    | (with_reducible refine Pz_nw (by assumption) (by intro q e h3; cases e; revert h3; decide) fun _ _ => ?_)
    | (with_reducible refine Pz_nwo (by assumption) fun _ _ => ?_)
    | (with_reducible refine Pz_si (by assumption) fun _ _ => ?_)
    | (with_reducible refine Pz_sr (by assumption) (by assumption) (by decide) fun _ _ => ?_)
    | (with_reducible refine Pz_srx (by assumption) (by assumption) (by decide) fun _ _ => ?_)
    | (with_reducible refine Pz_lt ?_)
    
    | split
theorem bz_X6 {l0 : Option Nat} {h : am_H} (hb : Bd h) : Pz (fxX6_init l0 h) := by
  unfold fxX6_init
  repeat' first
    | with_reducible exact Pz_some (by assumption)
    | with_reducible exact Pz_none
    | (with_reducible refine Pz_gd fun _ => ?_)
    | (with_reducible refine Pz_nw (by assumption) (by intro q e h3; cases e; revert h3; decide) fun _ _ => ?_)
    | (with_reducible refine Pz_nwo (by assumption) fun _ _ => ?_)
    | (with_reducible refine Pz_si (by assumption) fun _ _ => ?_)
    | (with_reducible refine Pz_sr (by assumption) (by assumption) (by decide) fun _ _ => ?_)
    | (with_reducible refine Pz_srx (by assumption) (by assumption) (by decide) fun _ _ => ?_)
    | (with_reducible refine Pz_lt ?_)
    | (with_reducible refine Pz_bd (bz_X1 (by assumption)) fun _ _ _ => ?_)
    | (with_reducible refine Pz_bd (bz_X5 (by assumption)) fun _ _ _ => ?_)
    | split
theorem bz_X8 {l0 : Option Nat} {h : am_H} (hb : Bd h) : Pz (fxX8_init l0 h) := by
  unfold fxX8_init
  repeat' first
    | with_reducible exact Pz_some (by assumption)
    | with_reducible exact Pz_none
    | (with_reducible refine Pz_gd fun _ => ?_)
    | (with_reducible refine Pz_nw (by assumption) (by intro q e h3; cases e; revert h3; decide) fun _ _ => ?_)
    | (with_reducible refine Pz_nwo (by assumption) fun _ _ => ?_)
    | (with_reducible refine Pz_si (by assumption) fun _ _ => ?_)
    | (with_reducible refine Pz_sr (by assumption) (by assumption) (by decide) fun _ _ => ?_)
    | (with_reducible refine Pz_srx (by assumption) (by assumption) (by decide) fun _ _ => ?_)
    | (with_reducible refine Pz_lt ?_)
    | (with_reducible refine Pz_bd (bz_X3 (by assumption)) fun _ _ _ => ?_)
    | split
theorem bz_X2_b95 : ∀ fuel (l0 : Option Nat) (x : Int32) (h : am_H), Bd h → Pz (fxX2_init_b95 fuel l0 x h) := by
  intro fuel
  induction fuel with
  | zero => intro l0 x h _; exact Pz_none
  | succ fuel ih =>
    intro l0 x h hb
    unfold fxX2_init_b95
    repeat' first
      | with_reducible exact Pz_some (by assumption)
      | with_reducible exact Pz_none
      | with_reducible exact ih _ _ _ (by assumption)
      | (with_reducible refine Pz_gd fun _ => ?_)
      | (with_reducible refine Pz_nw (by assumption) (by intro q e h3; cases e; revert h3; decide) fun _ _ => ?_)
      | (with_reducible refine Pz_nwo (by assumption) fun _ _ => ?_)
      | (with_reducible refine Pz_si (by assumption) fun _ _ => ?_)
      | (with_reducible refine Pz_sr (by assumption) (by assumption) (by decide) fun _ _ => ?_)
      | (with_reducible refine Pz_srx (by assumption) (by assumption) (by decide) fun _ _ => ?_)
      | (with_reducible refine Pz_lt ?_)
      
      | split
theorem bz_X2_b15 : ∀ fuel (l0 : Option Nat) (x : Int32) (h : am_H), Bd h → Pz (fxX2_init_b15 fuel l0 x h) := by
  intro fuel
  induction fuel with
  | zero => intro l0 x h _; exact Pz_none
  | succ fuel ih =>
    intro l0 x h hb
    unfold fxX2_init_b15
    repeat' first
      | with_reducible exact Pz_some (by assumption)
      | with_reducible exact Pz_none
      | with_reducible exact ih _ _ _ (by assumption)
      | (with_reducible refine Pz_gd fun _ => ?_)
      | (with_reducible refine Pz_nw (by assumption) (by intro q e h3; cases e; revert h3; decide) fun _ _ => ?_)
      | (with_reducible refine Pz_nwo (by assumption) fun _ _ => ?_)
      | (with_reducible refine Pz_si (by assumption) fun _ _ => ?_)
      | (with_reducible refine Pz_sr (by assumption) (by assumption) (by decide) fun _ _ => ?_)
      | (with_reducible refine Pz_srx (by assumption) (by assumption) (by decide) fun _ _ => ?_)
      | (with_reducible refine Pz_lt ?_)
      | with_reducible exact bz_X2_b95 _ _ _ _ (by assumption)
      | (with_reducible refine Pz_bd (bz_X1 (by assumption)) fun _ _ _ => ?_)
      | split
theorem bz_X2 {l0 : Option Nat} {h : am_H} (hb : Bd h) : Pz (fxX2_init l0 h) := by
  unfold fxX2_init
  repeat' first
    | with_reducible exact Pz_some (by assumption)
    | with_reducible exact Pz_none
    | (with_reducible refine Pz_gd fun _ => ?_)
    | (with_reducible refine Pz_nw (by assumption) (by intro q e h3; cases e; revert h3; decide) fun _ _ => ?_)
    | (with_reducible refine Pz_nwo (by assumption) fun _ _ => ?_)
    | (with_reducible refine Pz_si (by assumption) fun _ _ => ?_)
    | (with_reducible refine Pz_sr (by assumption) (by assumption) (by decide) fun _ _ => ?_)
    | (with_reducible refine Pz_srx (by assumption) (by assumption) (by decide) fun _ _ => ?_)
    | (with_reducible refine Pz_lt ?_)
    | with_reducible exact bz_X2_b15 _ _ _ _ (by assumption)
    | split
theorem bz_X0_b15 : ∀ fuel (l0 : Option Nat) (x : Int32) (h : am_H), Bd h → Pz (fxX0_init_b15 fuel l0 x h) := by
  intro fuel
  induction fuel with
  | zero => intro l0 x h _; exact Pz_none
  | succ fuel ih =>
    intro l0 x h hb
    unfold fxX0_init_b15
    repeat' first
      | with_reducible exact Pz_some (by assumption)
      | with_reducible exact Pz_none
      | with_reducible exact ih _ _ _ (by assumption)
      | (with_reducible refine Pz_gd fun _ => ?_)
      | (with_reducible refine Pz_nw (by assumption) (by intro q e h3; cases e; revert h3; decide) fun _ _ => ?_)
      | (with_reducible refine Pz_nwo (by assumption) fun _ _ => ?_)
      | (with_reducible refine Pz_si (by assumption) fun _ _ => ?_)
      | (with_reducible refine Pz_sr (by assumption) (by assumption) (by decide) fun _ _ => ?_)
      | (with_reducible refine Pz_srx (by assumption) (by assumption) (by decide) fun _ _ => ?_)
      | (with_reducible refine Pz_lt ?_)
      | (with_reducible refine Pz_bd (bz_X3 (by assumption)) fun _ _ _ => ?_)
      | split
theorem bz_X0 {l0 : Option Nat} {h : am_H} (hb : Bd h) : Pz (fxX0_init l0 h) := by
  unfold fxX0_init
  repeat' first
    | with_reducible exact Pz_some (by assumption)
    | with_reducible exact Pz_none
    | (with_reducible refine Pz_gd fun _ => ?_)
    | (with_reducible refine Pz_nw (by assumption) (by intro q e h3; cases e; revert h3; decide) fun _ _ => ?_)
    | (with_reducible refine Pz_nwo (by assumption) fun _ _ => ?_)
    | (with_reducible refine Pz_si (by assumption) fun _ _ => ?_)
    | (with_reducible refine Pz_sr (by assumption) (by assumption) (by decide) fun _ _ => ?_)
    | (with_reducible refine Pz_srx (by assumption) (by assumption) (by decide) fun _ _ => ?_)
    | (with_reducible refine Pz_lt ?_)
    | with_reducible exact bz_X0_b15 _ _ _ _ (by assumption)
    | split
theorem bz_free : ∀ fuel (a b c : Int32) (h : am_H), Bd h → Pz (fxX4_freeWord_b4 fuel a b c h) := by
  intro fuel
  induction fuel with
  | zero => intro a b c h _; exact Pz_none
  | succ fuel ih =>
    intro a b c h hb
    unfold fxX4_freeWord_b4 fxX4_freeWord_b26
    repeat' first
      | with_reducible exact Pz_some (by assumption)
      | with_reducible exact ih _ _ _ _ (by assumption)
      | (with_reducible refine Pz_lt ?_)
      | split
theorem bz_freeW {a b : Int32} {h : am_H} (hb : Bd h) : Pz (fxX4_freeWord a b h) := by
  unfold fxX4_freeWord
  refine Pz_lt ?_
  refine Pz_lt ?_
  exact bz_free _ _ _ _ _ hb
theorem bz_X4_b41 {k28 : Option Nat → Int32 → am_H → Option (Unit × am_H)} (hk : ∀ l x h, Bd h → Pz (k28 l x h)) : ∀ fuel (l0 : Option Nat) (a b c d : Int32) (h : am_H), Bd h → Pz (fxX4_init_b41 k28 fuel l0 a b c d h) := by
  intro fuel
  induction fuel with
  | zero => intro l0 a b c d h _; exact Pz_none
  | succ fuel ih =>
    intro l0 a b c d h hb
    unfold fxX4_init_b41
    repeat' first
      | with_reducible exact Pz_some (by assumption)
      | with_reducible exact ih _ _ _ _ _ _ (by assumption)
      | with_reducible exact hk _ _ _ (by assumption)
      | (with_reducible refine Pz_gd fun _ => ?_)
      | (with_reducible refine Pz_bd (bz_freeW (by assumption)) fun _ _ _ => ?_)
      | (with_reducible refine Pz_si (by assumption) fun _ _ => ?_)
      | (with_reducible refine Pz_lt ?_)
      | split
theorem bz_X4_b28 : ∀ fuel (l0 : Option Nat) (x : Int32) (h : am_H), Bd h → Pz (fxX4_init_b28 fuel l0 x h) := by
  intro fuel
  induction fuel with
  | zero => intro l0 x h _; exact Pz_none
  | succ fuel ih =>
    intro l0 x h hb
    unfold fxX4_init_b28
    repeat' first
      | with_reducible exact Pz_some (by assumption)
      | with_reducible exact bz_X4_b41 ih _ _ _ _ _ _ _ (by assumption)
      | (with_reducible refine Pz_lt ?_)
      | split
theorem bz_X4 {l0 : Option Nat} {h : am_H} (hb : Bd h) : Pz (fxX4_init l0 h) := by
  unfold fxX4_init
  repeat' first
    | with_reducible exact Pz_some (by assumption)
    | with_reducible exact Pz_none
    | (with_reducible refine Pz_gd fun _ => ?_)
    | (with_reducible refine Pz_nw (by assumption) (by intro q e h3; cases e; revert h3; decide) fun _ _ => ?_)
    | (with_reducible refine Pz_nwo (by assumption) fun _ _ => ?_)
    | (with_reducible refine Pz_si (by assumption) fun _ _ => ?_)
    | (with_reducible refine Pz_sr (by assumption) (by assumption) (by decide) fun _ _ => ?_)
    | (with_reducible refine Pz_srx (by assumption) (by assumption) (by decide) fun _ _ => ?_)
    | (with_reducible refine Pz_lt ?_)
    | with_reducible exact bz_X4_b28 _ _ _ _ (by assumption)
    | split
theorem bz_X9_b130 : ∀ fuel (l0 : Option Nat) (x : Int32) (h : am_H), Bd h → Pz (fxX9_init_b130 fuel l0 x h) := by
  intro fuel
  induction fuel with
  | zero => intro l0 x h _; exact Pz_none
  | succ fuel ih =>
    intro l0 x h hb
    unfold fxX9_init_b130
    repeat' first
      | with_reducible exact Pz_some (by assumption)
      | with_reducible exact Pz_none
      | with_reducible exact ih _ _ _ (by assumption)
      | (with_reducible refine Pz_gd fun _ => ?_)
      | (with_reducible refine Pz_nw (by assumption) (by intro q e h3; cases e; revert h3; decide) fun _ _ => ?_)
      | (with_reducible refine Pz_nwo (by assumption) fun _ _ => ?_)
      | (with_reducible refine Pz_si (by assumption) fun _ _ => ?_)
      | (with_reducible refine Pz_sr (by assumption) (by assumption) (by decide) fun _ _ => ?_)
      | (with_reducible refine Pz_srx (by assumption) (by assumption) (by decide) fun _ _ => ?_)
      | (with_reducible refine Pz_lt ?_)
      | (with_reducible refine Pz_bd (bz_X6 (by assumption)) fun _ _ _ => ?_)
      | split
theorem bz_X9_b96 : ∀ fuel (l0 : Option Nat) (x : Int32) (h : am_H), Bd h → Pz (fxX9_init_b96 fuel l0 x h) := by
  intro fuel
  induction fuel with
  | zero => intro l0 x h _; exact Pz_none
  | succ fuel ih =>
    intro l0 x h hb
    unfold fxX9_init_b96
    repeat' first
      | with_reducible exact Pz_some (by assumption)
      | with_reducible exact Pz_none
      | with_reducible exact ih _ _ _ (by assumption)
      | (with_reducible refine Pz_gd fun _ => ?_)
      | (with_reducible refine Pz_nw (by assumption) (by intro q e h3; cases e; revert h3; decide) fun _ _ => ?_)
      | (with_reducible refine Pz_nwo (by assumption) fun _ _ => ?_)
      | (with_reducible refine Pz_si (by assumption) fun _ _ => ?_)
      | (with_reducible refine Pz_sr (by assumption) (by assumption) (by decide) fun _ _ => ?_)
      | (with_reducible refine Pz_srx (by assumption) (by assumption) (by decide) fun _ _ => ?_)
      | (with_reducible refine Pz_lt ?_)
      | with_reducible exact bz_X9_b130 _ _ _ _ (by assumption)
      | (with_reducible refine Pz_bd (bz_X5 (by assumption)) fun _ _ _ => ?_)
      | split
theorem bz_X9 {l0 : Option Nat} {h : am_H} (hb : Bd h) : Pz (fxX9_init l0 h) := by
  unfold fxX9_init
  repeat' first
    | with_reducible exact Pz_some (by assumption)
    | with_reducible exact Pz_none
    | (with_reducible refine Pz_gd fun _ => ?_)
    | (with_reducible refine Pz_nw (by assumption) (by intro q e h3; cases e; revert h3; decide) fun _ _ => ?_)
    | (with_reducible refine Pz_nwo (by assumption) fun _ _ => ?_)
    | (with_reducible refine Pz_si (by assumption) fun _ _ => ?_)
    | (with_reducible refine Pz_sr (by assumption) (by assumption) (by decide) fun _ _ => ?_)
    | (with_reducible refine Pz_srx (by assumption) (by assumption) (by decide) fun _ _ => ?_)
    | (with_reducible refine Pz_lt ?_)
    | with_reducible exact bz_X9_b96 _ _ _ _ (by assumption)
    | (with_reducible refine Pz_bd (bz_X2 (by assumption)) fun _ _ _ => ?_)
    | (with_reducible refine Pz_bd (bz_X0 (by assumption)) fun _ _ _ => ?_)
    | (with_reducible refine Pz_bd (bz_X8 (by assumption)) fun _ _ _ => ?_)
    | (with_reducible refine Pz_bd (bz_X7 (by assumption)) fun _ _ _ => ?_)
    | (with_reducible refine Pz_bd (bz_X4 (by assumption)) fun _ _ _ => ?_)
    | split
theorem bz_X10 {l0 : Option Nat} {h : am_H} (hb : Bd h) : Pz (fxX10_init l0 h) := by
  unfold fxX10_init
  repeat' first
    | with_reducible exact Pz_some (by assumption)
    | with_reducible exact Pz_none
    | (with_reducible refine Pz_gd fun _ => ?_)
    | (with_reducible refine Pz_nw (by assumption) (by intro q e h3; cases e; revert h3; decide) fun _ _ => ?_)
    | (with_reducible refine Pz_nwo (by assumption) fun _ _ => ?_)
    | (with_reducible refine Pz_si (by assumption) fun _ _ => ?_)
    | (with_reducible refine Pz_sr (by assumption) (by assumption) (by decide) fun _ _ => ?_)
    | (with_reducible refine Pz_srx (by assumption) (by assumption) (by decide) fun _ _ => ?_)
    | (with_reducible refine Pz_lt ?_)
    
    | split
