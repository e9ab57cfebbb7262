/-! ===== System.arraycopy of int arrays ===== -/
def am_cpok (h : am_H) (r0 r1 : Option Nat) (sp dp n : Int32) : Bool := am_ar h r0 0 && am_ar h r1 0 && !decide (sp < 0) && !decide (dp < 0) && !decide (n < 0) && decide (sp.toNatClampNeg + n.toNatClampNeg ≤ am_ln h r0) && decide (dp.toNatClampNeg + n.toNatClampNeg ≤ am_ln h r1)
def am_cp (h : am_H) (r0 r1 : Option Nat) (sp dp n : Nat) : am_H := (h.1, h.2.1, am_u1 h.2.2.1 (r1.getD 0) (va_cpy (h.2.2.1 (r0.getD 0)) (h.2.2.1 (r1.getD 0)) sp dp n), h.2.2.2)
theorem am_nonneg (z : Int32) (hz : ¬ z < 0) : z.toInt = (z.toNatClampNeg : Int) := by
  have hz0 : (0 : Int) ≤ z.toInt := by
    have := Int32.not_lt.mp hz
    simpa using Int32.le_iff_toInt_le.mp this
  show z.toInt = ((z.toInt.toNat : Nat) : Int)
  omega
section AM9
variable {α : Type} {xs : List Int32} {cv : α → Option am_V} {mt : am_M} {d rc rs rc' rs' pc pc' : Nat} {L L' : List (Option am_V)} {st : List am_V} {h : am_H} {res : Option (α × am_H)}
theorem am_acopy {i : Nat} {r0 r1 : Option Nat} {sp dp n : Int32} {kr : am_H → Option (α × am_H)} (hd : am_at mt.2.1 pc (.invokestatic i) 3 pc') (hw1 : Cond.methodLink mt.1.cls i arraycopyName ∈ am_gw) (hw2 : Cond.native arraycopyName ∈ am_gw) (hw3 : Cond.static arraycopyName ∈ am_gw) (hw4 : Cond.initialized "java/lang/System" ∈ am_gw) (hd1 : 1 ≤ d) (hrl : st.length ≤ 8) (k : ∀ h', am_Sm xs cv mt d rc rs pc' L st h' (kr h')) : am_Sm xs cv mt d rc rs pc L (am_I n :: am_I dp :: am_R r1 :: am_I sp :: am_R r0 :: st) h (am_gd (am_cpok h r0 r1 sp dp n) (am_lt (am_cp h r0 r1 sp.toNatClampNeg dp.toNatClampNeg n.toNatClampNeg) kr)) := by
  obtain ⟨hd, rfl⟩ := hd
  intro a h2 e p l en R s m args below meth c b kd ka D cA cx H locs cells slots mc ms ls q1 q2 q3 q4 hS hW hl
  obtain ⟨hx, hb, hml, hown, hts, hr, hlk, hnm, hfr, hlo, hCo, hK⟩ := id cx
  obtain ⟨g, e9⟩ := am_gd_inv e; clear e
  simp only [am_cpok, Bool.and_eq_true, Bool.not_eq_true', decide_eq_false_iff_not, decide_eq_true_eq] at g
  obtain ⟨⟨⟨⟨⟨⟨ga, gb⟩, h1⟩, h2'⟩, h3⟩, h4⟩, h5⟩ := g
  obtain ⟨k0, n0, rfl, a1, a2, a3⟩ := am_ar_spec ga
  obtain ⟨k1, n1, rfl, b1, b2, b3⟩ := am_ar_spec gb
  rw [a3] at h4
  rw [b3] at h5
  intro T hT X
  have hc0 : H[b + k0]? = some (vp_cell (cA 0) (n0, .inl (h.2.2.1 k0))) := hW.arr a1 a2 (by decide)
  have hc1 : H[b + k1]? = some (vp_cell (cA 0) (n1, .inl (h.2.2.1 k1))) := hW.arr b1 b2 (by decide)
  obtain ⟨-, z0, hz0, cm0, hzk0⟩ := am_hK hK (t := 0) rfl n0 (fun j => .int (h.2.2.1 k0 j))
  obtain ⟨-, z1, hz1, cm1, hzk1⟩ := am_hK hK (t := 0) rfl n1 (fun j => .int (h.2.2.1 k1 j))
  obtain ⟨vm', X', step⟩ := X.arraycopy hx hown (hts _ hw1) (hts _ hw2) (hts _ hw3) (hts _ hw4) (src := b + k0) (dst := b + k1) (cs := vp_cell (cA 0) (n0, .inl (h.2.2.1 k0))) (cd := vp_cell (cA 0) (n1, .inl (h.2.2.1 k1))) (srcPos := sp) (destPos := dp) (n := n) (by rw [hT]; exact hc0) (by rw [hT]; exact hc1)
    (fun _ h => by cases h) (fun _ h => by cases h) (fun h => by cases h) (fun h => by cases h) hz0 hz1 hzk0 hzk1 (by simp [refKind]) h1 h2' h3
    (by rw [am_nonneg sp h1, am_nonneg n h3]; show ¬ _ > ((arrV (cA 0) n0 (fun j => .int (h.2.2.1 k0 j))).slots.size : Int); rw [arrV_size]; omega)
    (by rw [am_nonneg dp h2', am_nonneg n h3]; show ¬ _ > ((arrV (cA 0) n1 (fun j => .int (h.2.2.1 k1 j))).slots.size : Int); rw [arrV_size]; omega)
    (fun vm₁ _ i hi => by
      have e : (vp_cell (cA 0) (n0, .inl (h.2.2.1 k0))).slots.getD (sp.toNatClampNeg + i) .null = .int (h.2.2.1 k0 (sp.toNatClampNeg + i)) := by
        show (arrV (cA 0) n0 (fun j => .int (h.2.2.1 k0 j))).slots.getD _ _ = _
        rw [Array.getD_eq_getD_getElem?, arrV_read _ _ (by omega)]
        rfl
      refine ⟨?_, ?_⟩
      · rw [e]; rfl
      · rw [e]; exact trivial)
    (g := F0 m pc ls (.int n :: .int dp :: .ref (b + k1) :: .int sp :: .ref (b + k0) :: st.map (am_tv b kd))) rfl (by show ls.size = _; rw [hml, hl.1]) (rest := st.map (am_tv b kd)) rfl (by rw [hb]; exact hd) (by omega) (by show 2 * 0 + ((st.map (am_tv b kd)).map fun v => v.category).sum + (7 + 11) ≤ _; rw [am_cats]; omega)
  have e1 : copied (vp_cell (cA 0) (n0, .inl (h.2.2.1 k0))) (vp_cell (cA 0) (n1, .inl (h.2.2.1 k1))) sp dp n = vp_cell (cA 0) (n1, .inl (va_cpy (h.2.2.1 k0) (h.2.2.1 k1) sp.toNatClampNeg dp.toNatClampNeg n.toNatClampNeg)) := va_copied (fun z => .int z) (cA 0) (cA 0) _ _ h4
  rw [e1] at X' step
  have hlt : b + k1 < H.size := (Array.getElem?_eq_some_iff.mp hc1).1
  generalize hce : vp_cell (cA 0) (n1, .inl (va_cpy (h.2.2.1 k0) (h.2.2.1 k1) sp.toNatClampNeg dp.toNatClampNeg n.toNatClampNeg)) = ce at X' step
  have hheap : ((T.setVm vm').setCell (b + k1) ce).heap = H.setIfInBounds (b + k1) ce := by rw [← hT]; rfl
  have oq : ∀ q : Nat, q ≠ b + k1 → (H.setIfInBounds (b + k1) ce)[q]? = H[q]? := fun q hq => by simp [Array.getElem?_setIfInBounds, Ne.symm hq]
  have z : (H.setIfInBounds (b + k1) ce).size = H.size := by simp
  have hu : ∀ j, j ≠ k1 → (am_cp h (some k0) (some k1) sp.toNatClampNeg dp.toNatClampNeg n.toNatClampNeg).2.2.1 j = h.2.2.1 j := fun j hj => by simp [am_cp, am_u1, hj]
  obtain ⟨t, t1, t2⟩ := k (am_cp h (some k0) (some k1) sp.toNatClampNeg dp.toNatClampNeg n.toNatClampNeg) a h2 e9 p l en R s m args below meth c b kd ka D cA cx (H.setIfInBounds (b + k1) ce) _ cells slots mc ms ls q1 q2 q3 q4 ⟨by rw [z]; exact hS.1, fun q g1 g2 => by
      rw [oq q (fun e => g2 (by rw [e]; exact Nat.le_add_right b k1))]
      exact hS.2.1 q g1 g2, fun q hq => by
      rcases List.mem_append.mp hq with h | h
      · exact hS.2.2 q h
      · obtain ⟨y, -, hy⟩ := List.mem_map.mp h
        rw [← hy]
        exact Nat.le_add_right b k1⟩ (hW.put (k := k1) rfl (fun j hj => ⟨rfl, hu j hj, rfl⟩) (by
      show va_at D am_cl (b + k1, am_ce b cA (h.2.1 k1) ((am_cp h (some k0) (some k1) sp.toNatClampNeg dp.toNatClampNeg n.toNatClampNeg).2.2.1 k1) _) _
      rw [b2]
      show (H.setIfInBounds (b + k1) ce)[b + k1]? = some (vp_cell (cA 0) (n1, .inl ((am_cp h (some k0) (some k1) sp.toNatClampNeg dp.toNatClampNeg n.toNatClampNeg).2.2.1 k1)))
      rw [show (am_cp h (some k0) (some k1) sp.toNatClampNeg dp.toNatClampNeg n.toNatClampNeg).2.2.1 k1 = va_cpy (h.2.2.1 k0) (h.2.2.1 k1) sp.toNatClampNeg dp.toNatClampNeg n.toNatClampNeg by simp [am_cp, am_u1], hce]
      simp [Array.getElem?_setIfInBounds, hlt]) z oq) hl _ hheap X'
  exact ⟨t, step t t1, t2⟩

def am_mmax (x y : Int32) : Int32 := if x < y then y else x
theorem am_mmax9 {i : Nat} {x y : Int32} (hd : am_at mt.2.1 pc (.invokestatic i) 3 pc') (hw1 : Cond.methodLink mt.1.cls i Lib.Math.max.name ∈ am_gw) (hw2 : Cond.static Lib.Math.max.name ∈ am_gw) (hw3 : Cond.initialized "java/lang/Math" ∈ am_gw) (hw4 : Cond.code Lib.Math.max.name Lib.Math.max.code 2 (some .int) ∈ am_gw) (hd1 : 1 ≤ d) (hrl : st.length ≤ 8) (k : am_Sm xs cv mt d rc rs pc' L (am_I (am_mmax x y) :: st) h res) : am_Sm xs cv mt d rc rs pc L (am_I y :: am_I x :: st) h res := by
  obtain ⟨hd, rfl⟩ := hd
  intro a h2 e p l en R s m args below meth c b kd ka D cA cx H locs cells slots mc ms ls q1 q2 q3 q4 hS hW hl
  obtain ⟨hx, hb, hml, hown, hts, hr, hlk, hnm, hfr, hlo, hCo, hK⟩ := id cx
  exact va_mmax hx hb (by rw [hml, hl.1]) hown (hts _ hw1) (hts _ hw2) (hts _ hw3) (hts _ hw4) (by omega) (by rw [am_cats]; omega) (by omega) (by omega) hd (k a h2 e p l en R s m args below meth c b kd ka D cA cx H locs cells slots mc ms ls q1 q2 q3 q4 hS hW hl)
def am_mmin (x y : Int32) : Int32 := if y < x then y else x
theorem am_mmin9 {i : Nat} {x y : Int32} (hd : am_at mt.2.1 pc (.invokestatic i) 3 pc') (hw1 : Cond.methodLink mt.1.cls i Lib.Math.min.name ∈ am_gw) (hw2 : Cond.static Lib.Math.min.name ∈ am_gw) (hw3 : Cond.initialized "java/lang/Math" ∈ am_gw) (hw4 : Cond.code Lib.Math.min.name Lib.Math.min.code 2 (some .int) ∈ am_gw) (hd1 : 1 ≤ d) (hrl : st.length ≤ 8) (k : am_Sm xs cv mt d rc rs pc' L (am_I (am_mmin x y) :: st) h res) : am_Sm xs cv mt d rc rs pc L (am_I y :: am_I x :: st) h res := by
  obtain ⟨hd, rfl⟩ := hd
  intro a h2 e p l en R s m args below meth c b kd ka D cA cx H locs cells slots mc ms ls q1 q2 q3 q4 hS hW hl
  obtain ⟨hx, hb, hml, hown, hts, hr, hlk, hnm, hfr, hlo, hCo, hK⟩ := id cx
  exact va_mmin hx hb (by rw [hml, hl.1]) hown (hts _ hw1) (hts _ hw2) (hts _ hw3) (hts _ hw4) (by omega) (by rw [am_cats]; omega) (by omega) (by omega) hd (k a h2 e p l en R s m args below meth c b kd ka D cA cx H locs cells slots mc ms ls q1 q2 q3 q4 hS hW hl)
end AM9
