/-! ===== what a change leaves as it was ===== -/
theorem TR_congr {M M' : Mem} {t : Nat} {g : Nat → Int32} (h1 : M' (48 + 2 * t) = M (48 + 2 * t)) (h2 : M' (49 + 2 * t) = M (49 + 2 * t)) (h : TR M t g) : TR M' t g := by
  unfold TR at h ⊢
  rw [h1, h2]
  exact h
theorem RC_congr {M M' : Mem} {gb : Nat} {g : Nat → Int32} (h1 : ∀ k, gb ≤ k → k ≤ gb + 14 → M' k = M k) (h2 : ∀ k, 48 ≤ k → k ≤ 77 → M' k = M k) (h : RC M gb g) : RC M' gb g := by
  obtain ⟨a1, a2, a3, a4, a5, a6⟩ := h
  refine ⟨?_, fun i hi j hj => ?_, fun i hi => ?_, ⟨fun t ht => ?_, fun key hk => ?_⟩, a5, a6⟩
  · unfold RCs at a1 ⊢
    rw [h1 gb (by omega) (by omega)]
    exact a1
  · have := a5.n.1
    rw [h1 (gb + 2 + i) (by omega) (by omega)]
    exact a2 i hi j hj
  · have := a3 i hi
    rw [h1 (gb + 12) (by omega) (by omega), h1 (gb + 13) (by omega) (by omega)]
    exact this
  · have := a5.t.1
    exact TR_congr (h2 _ (by omega) (by omega)) (h2 _ (by omega) (by omega)) (a4.1 t ht)
  · rw [h1 (gb + 14) (by omega) (by omega)]
    exact a4.2 key hk
theorem RI_congr {M M' : Mem} (h1 : ∀ k, 16 ≤ k → k ≤ 30 → M' k = M k) (h2 : ∀ k, 48 ≤ k → k ≤ 77 → M' k = M k) (h3 : M' 123 = M 123) (h4 : M' 0 3 = M 0 3) (h5 : M' 121 3 = M 121 3) (h6 : cn (M 122 5) ≤ cn (M' 122 5)) (h : RI M) : RI M' := by
  obtain ⟨a1, a2⟩ := h
  refine ⟨by rw [h4, h5]; exact a1, ?_⟩
  rw [h5]
  rcases a2 with a2 | ⟨a2, a3, a4, a5⟩
  · exact Or.inl a2
  · rw [h3]
    exact Or.inr ⟨a2, RC_congr (fun k q1 q2 => h1 k q1 (by omega)) h2 a3, Nat.le_trans a4 h6, a5⟩
theorem RT_congr {M M' : Mem} (h1 : M' 80 = M 80) (h2 : M' 129 = M 129) (h3 : M' 79 1 = M 79 1) (h4 : M' 121 9 = M 121 9) (h : RT M) : RT M' := by
  unfold RT at h ⊢
  rw [h1, h2, h3, h4]
  exact h
theorem RW_congr {M M' : Mem} (h1 : M' 120 = M 120) (h2 : M' 145 = M 145) (h3 : M' 0 11 = M 0 11) (h4 : M' 121 35 = M 121 35) (h : RW M) : RW M' := by
  unfold RW at h ⊢
  rw [h1, h2, h3, h4]
  exact h
theorem RS_congr {M M' : Mem} (h1 : ∀ k, 91 ≤ k → k ≤ 98 → M' k = M k) (h2 : ∀ k, 137 ≤ k → k ≤ 139 → M' k = M k) (h : RS M) : RS M' := by
  intro s hs
  have := h s hs
  rw [h1 (91 + 2 * s) (by omega) (by omega), h1 (92 + 2 * s) (by omega) (by omega), h2 137 (by omega) (by omega), h2 138 (by omega) (by omega), h2 139 (by omega) (by omega)]
  exact this
theorem RL_congr {M M' : Mem} (h1 : ∀ k, 100 ≤ k → k ≤ 119 → M' k = M k) (h2 : ∀ k, 140 ≤ k → k ≤ 143 → M' k = M k) (h : RL M) : RL M' := by
  intro s hs
  have := h s hs
  unfold RL1 at this ⊢
  rw [h1 (100 + 4 * s) (by omega) (by omega), h1 (101 + 4 * s) (by omega) (by omega), h1 (102 + 4 * s) (by omega) (by omega), h1 (103 + 4 * s) (by omega) (by omega), h2 140 (by omega) (by omega), h2 141 (by omega) (by omega), h2 142 (by omega) (by omega), h2 143 (by omega) (by omega)]
  exact this
theorem RX_congr {M M' : Mem} (h1 : M' 130 = M 130) (h2 : M' 131 = M 131) (h3 : M' 88 = M 88) (h : RX M) : RX M' := by
  unfold RX at h ⊢
  rw [h1, h2, h3]
  exact h
/-- only the guild of now has changed (and what nobody keeps) -/
theorem Inv.now {lp : Nat} {M M' : Mem} (hI : Inv lp M) (h1 : ∀ k, ¬ (1 ≤ k ∧ k ≤ 15) → k ≠ 122 → M' k = M k) (hc : RC M' 1 (M' 122)) (hd : cn (M' 122 2) ≤ 9999) (h5 : cn (M 122 5) ≤ cn (M' 122 5)) : Inv lp M' := by
  obtain ⟨⟨a1, a0⟩, a2, a3, a4, a5, a6, a7, a8⟩ := hI
  have e := fun (k : Nat) (q1 : ¬ (1 ≤ k ∧ k ≤ 15)) (q2 : k ≠ 122) => h1 k q1 q2
  refine ⟨⟨hc, hd⟩, RI_congr (fun k _ _ => e k (by omega) (by omega)) (fun k _ _ => e k (by omega) (by omega)) (e 123 (by omega) (by omega)) (by rw [e 0 (by omega) (by omega)]) (by rw [e 121 (by omega) (by omega)]) h5 a2, RT_congr (e 80 (by omega) (by omega)) (e 129 (by omega) (by omega)) (by rw [e 79 (by omega) (by omega)]) (by rw [e 121 (by omega) (by omega)]) a3, RW_congr (e 120 (by omega) (by omega)) (e 145 (by omega) (by omega)) (by rw [e 0 (by omega) (by omega)]) (by rw [e 121 (by omega) (by omega)]) a4, RS_congr (fun k _ _ => e k (by omega) (by omega)) (fun k _ _ => e k (by omega) (by omega)) a5, RL_congr (fun k _ _ => e k (by omega) (by omega)) (fun k _ _ => e k (by omega) (by omega)) a6, RX_congr (e 130 (by omega) (by omega)) (e 131 (by omega) (by omega)) (e 88 (by omega) (by omega)) a7, a8⟩
/-- one place of an array -/
def up1 (g : Nat → Int32) (k : Nat) (v : Int32) : Nat → Int32 := fun j => if j = k then v else g j
theorem up_row (M : Mem) (k j : Nat) (v : Int32) : am_up M k j v k = up1 (M k) j v := by
  funext c
  simp [am_up, up1]
theorem up1_eq (g : Nat → Int32) (k : Nat) (v : Int32) : up1 g k v k = v := by simp [up1]
theorem up1_ne {g : Nat → Int32} {k j : Nat} {v : Int32} (h : j ≠ k) : up1 g k v j = g j := by simp [up1, h]
theorem TR_g {M : Mem} {t : Nat} {g g' : Nat → Int32} (h : ∀ k, 76 ≤ k → g' k = g k) (hT : TR M t g) : TR M t g' := by
  obtain ⟨K, n, o, h1, h2, h3, h4, h5, h6, h7, h8, h9, h10⟩ := hT
  have e : (fun k => g' (104 + 96 * t + k)) = (fun k => g (104 + 96 * t + k)) := funext fun k => h _ (by omega)
  refine ⟨K, n, o, h1, h2, h3, by rw [h _ (by omega)]; exact h4, by rw [h _ (by omega)]; exact h5, h6, h7, h8, fun k hk => by rw [h _ (by omega)]; exact h9 k hk, by rw [e]; exact h10⟩
theorem lastK_g {g g' : Nat → Int32} (h : ∀ k, 76 ≤ k → g' k = g k) (key : Int32) : ∀ t, lastK g' key t = lastK g key t := by
  intro t
  induction t with
  | zero => rfl
  | succ t ih => simp only [lastK, h (76 + 2 * t) (by omega), ih]
theorem RCt_g {M : Mem} {gb : Nat} {g g' : Nat → Int32} (h : ∀ k, 76 ≤ k → g' k = g k) (h5 : g' 5 = g 5) (hR : RCt M gb g) : RCt M gb g' := by
  refine ⟨fun t ht => TR_g h (hR.1 t (by rw [← h5]; exact ht)), fun key hk => ?_⟩
  rw [lastK_g h, h5]
  exact hR.2 key hk
theorem RCt_congr {M M' : Mem} {gb : Nat} {g : Nat → Int32} (h1 : M' (gb + 14) = M (gb + 14)) (h2 : ∀ k, 48 ≤ k → k ≤ 77 → M' k = M k) (h14 : cn (g 5) ≤ 14) (h : RCt M gb g) : RCt M' gb g :=
  ⟨fun t ht => TR_congr (h2 _ (by omega) (by omega)) (h2 _ (by omega) (by omega)) (h.1 t ht), fun key hk => by rw [h1]; exact h.2 key hk⟩
/-- one number of the guild changes: slot j of the class's, place p of the array -/
theorem RC_scal {M M' : Mem} {gb : Nat} {g : Nat → Int32} {p : Nat} {v : Int32} (hR : RC M gb g) (hp : p = 0 ∨ p = 2 ∨ p = 3) (hs : RCs M' gb (up1 g p v)) (hrow : ∀ k, gb < k → k ≤ gb + 14 → M' k = M k) (h2 : ∀ k, 48 ≤ k → k ≤ 77 → M' k = M k) (hv : Vs (up1 g p v)) : RC M' gb (up1 g p v) := by
  obtain ⟨a1, a2, a3, a4, a5, a6⟩ := hR
  have e1 : up1 g p v 1 = g 1 := up1_ne (by omega)
  have e4 : up1 g p v 4 = g 4 := up1_ne (by omega)
  have e5 : up1 g p v 5 = g 5 := up1_ne (by omega)
  refine ⟨hs, fun i hi j hj => ?_, fun i hi => ?_, RCt_congr (hrow _ (by omega) (by omega)) h2 (by rw [e5]; exact a5.t.1) (RCt_g (fun k hk => up1_ne (by omega)) e5 a4), hv, fun i hi j hj => ?_⟩
  · rw [e1] at hi
    have := a5.n.1
    rw [hrow (gb + 2 + i) (by omega) (by omega), up1_ne (by omega)]
    exact a2 i hi j hj
  · rw [e4] at hi
    rw [hrow (gb + 12) (by omega) (by omega), hrow (gb + 13) (by omega) (by omega), up1_ne (by omega)]
    exact a3 i hi
  · rw [e1] at hi
    have := a6 i hi j hj
    unfold mg at this ⊢
    rw [up1_ne (by omega)]
    exact this
