/-! ===== the rules: arrays, constants, statics, new cells ===== -/
def am_en (t : Nat) : String := match t with
  | 3 => RX1 | 4 => RX3 | 5 => RX5 | _ => RX6
def am_ec (t : Nat) : Nat := match t with
  | 3 => 1 | 4 => 3 | 5 => 5 | _ => 6
theorem am_tyo {cA : Nat → ClassId} {t : Nat} (h1 : 3 ≤ t) (h2 : t < 7) : (am_ty cA)[t]? = some (cA t, .object (am_en t)) := by
  rcases (show t = 3 ∨ t = 4 ∨ t = 5 ∨ t = 6 by omega) with rfl | rfl | rfl | rfl <;> rfl
theorem am_ecl {t : Nat} (h1 : 3 ≤ t) (h2 : t < 7) : ∃ q : vw_C, am_cl[am_ec t]? = some q ∧ q.1 = am_en t := by
  rcases (show t = 3 ∨ t = 4 ∨ t = 5 ∨ t = 6 by omega) with rfl | rfl | rfl | rfl
  · exact ⟨_, rfl, rfl⟩
  · exact ⟨_, rfl, rfl⟩
  · exact ⟨_, rfl, rfl⟩
  · exact ⟨_, rfl, rfl⟩
theorem am_char {x : Int32} (g : am_cz x = true) : narrow .char (.int x) = .int x := by
  simp only [am_cz, Bool.and_eq_true, Bool.not_eq_true', decide_eq_false_iff_not, decide_eq_true_eq] at g
  obtain ⟨j, hj, rfl⟩ := nI_of g.1
  rw [nI_clamp hj] at g
  exact (pk_charN g.2).1
theorem am_prim (ci j : Nat) : am_tf ci j ≠ .long ∧ am_tf ci j ≠ .float ∧ am_tf ci j ≠ .double := by
  unfold am_tf
  split <;> first
    | (unfold tyX0; split <;> decide) | (unfold tyX1; split <;> decide) | (unfold tyX2; split <;> decide) | (unfold tyX3; split <;> decide) | (unfold tyX4; split <;> decide) | (unfold tyX5; split <;> decide) | (unfold tyX6; split <;> decide) | (unfold tyX7; split <;> decide) | (unfold tyX8; split <;> decide) | (unfold tyX9; split <;> decide) | (unfold tyX10; split <;> decide)
/-- a new cell -/
def am_u1 {α : Type} (f : Nat → α) (k : Nat) (v : α) : Nat → α := fun j => if j = k then v else f j
def am_nw (h : am_H) (sh : am_S) : am_H := (h.1 + 1, am_u1 h.2.1 h.1 sh, am_u1 h.2.2.1 h.1 (fun _ => 0), am_u1 h.2.2.2 h.1 (fun _ => none))
theorem am_W.new {D : va_G} {cA : Nat → ClassId} {b : Nat} {h : am_H} {H H1 : Heap} {sh : am_S} (hW : am_W D cA b h H) (he : va_at D am_cl (b + h.1, am_ce b cA sh (fun _ => 0) (fun _ => none)) H1) (z : H1.size = H.size + 1) (oq : ∀ q : Nat, q < H.size → H1[q]? = H[q]?) : am_W D cA b (am_nw h sh) H1 := by
  refine ⟨fun i q hq => ?_, by rw [z, hW.2]; rfl⟩
  obtain ⟨hi, rfl⟩ := am_wl_inv hq
  have hi : i < h.1 + 1 := hi
  by_cases hik : i = h.1
  · subst hik
    simpa [am_nw, am_u1] using he
  · have h1 := hW.1 i _ (am_wl_get (show i < h.1 by omega))
    have h2 := h1.kept (H1 := H1) (oq _ (by rw [hW.2]; show b + i < b + h.1; omega))
    simpa [am_nw, am_u1, hik] using h2
theorem am_Snew {b : Nat} {H0 H H1 : Heap} {locs : List Loc} (hS : va_S (am_A b) H0 H locs) (z : H1.size = H.size + 1) (oq : ∀ q : Nat, q < H.size → H1[q]? = H[q]?) : va_S (am_A b) H0 H1 locs := ⟨Nat.le_trans hS.1 (by omega), fun x h1 h2 => (oq x (Nat.lt_of_lt_of_le h1 hS.1)).trans (hS.2.1 x h1 h2), hS.2.2⟩
theorem am_rep (D : va_G) (cA : Nat → ClassId) (b t n q : Nat) (H : Heap) (ht : t < 3) (z : H[q]? = some (arrV (cA t) n (fun _ => .int 0))) : va_at D am_cl (q, am_ce b cA (.inl (t, n)) (fun _ => 0) (fun _ => none)) H := by
  simp only [am_ce, ht, if_true]
  exact z
theorem am_repR (D : va_G) (cA : Nat → ClassId) (b t n q : Nat) (H : Heap) (ht : ¬ t < 3) (z : H[q]? = some (arrV (cA t) n (fun _ => .null))) : va_at D am_cl (q, am_ce b cA (.inl (t, n)) (fun _ => 0) (fun _ => none)) H := by
  simp only [am_ce, ht, if_false]
  exact z
section AM7
variable {α : Type} {xs : List Int32} {cv : α → Option am_V} {mt : am_M} {d rc rs rc' rs' pc pc' : Nat} {L L' : List (Option am_V)} {st : List am_V} {h : am_H} {res : Option (α × am_H)}
theorem am_iald {i : Int32} {r : Option Nat} (hd : am_at mt.2.1 pc .iaload 1 pc') (k : am_Sm xs cv mt d rc rs pc' L (am_I (am_gi h r i.toNatClampNeg) :: st) h res) : am_Sm xs cv mt d rc rs pc L (am_I i :: am_R r :: st) h (am_gd (am_ix h r 0 i) res) := by
  obtain ⟨hd, rfl⟩ := hd
  intro a h2 e p l en R s m args below meth c b kd ka D cA cx H locs cells slots mc ms ls q1 q2 q3 q4 hS hW hl
  obtain ⟨hx, hb, hml, hown, hts, hr, hlk, hnm, hfr, hlo, hCo, hK⟩ := id cx
  obtain ⟨g, e9⟩ := am_gd_inv e; clear e
  obtain ⟨k0, n, rfl, g1, g2, g3⟩ := am_ix_spec g
  exact va_iald (n := n) (f := h.2.2.1 k0) hx hb hK hW.1 k0 0 (by rw [am_wl_get g1, g2]; rfl) rfl g3 hd (k a h2 e9 p l en R s m args below meth c b kd ka D cA cx H locs cells slots mc ms ls q1 q2 q3 q4 hS hW hl)
theorem am_cald {i : Int32} {r : Option Nat} (hd : am_at mt.2.1 pc .caload 1 pc') (k : am_Sm xs cv mt d rc rs pc' L (am_I (am_gi h r i.toNatClampNeg) :: st) h res) : am_Sm xs cv mt d rc rs pc L (am_I i :: am_R r :: st) h (am_gd (am_ix h r 1 i) res) := by
  obtain ⟨hd, rfl⟩ := hd
  intro a h2 e p l en R s m args below meth c b kd ka D cA cx H locs cells slots mc ms ls q1 q2 q3 q4 hS hW hl
  obtain ⟨hx, hb, hml, hown, hts, hr, hlk, hnm, hfr, hlo, hCo, hK⟩ := id cx
  obtain ⟨g, e9⟩ := am_gd_inv e; clear e
  obtain ⟨k0, n, rfl, g1, g2, g3⟩ := am_ix_spec g
  exact va_cald (n := n) (f := h.2.2.1 k0) hx hb hK hW.1 k0 1 (by rw [am_wl_get g1, g2]; rfl) rfl g3 hd (k a h2 e9 p l en R s m args below meth c b kd ka D cA cx H locs cells slots mc ms ls q1 q2 q3 q4 hS hW hl)
theorem am_zald {i : Int32} {r : Option Nat} (hd : am_at mt.2.1 pc .baload 1 pc') (k : am_Sm xs cv mt d rc rs pc' L (am_I (am_gi h r i.toNatClampNeg) :: st) h res) : am_Sm xs cv mt d rc rs pc L (am_I i :: am_R r :: st) h (am_gd (am_ix h r 2 i) res) := by
  obtain ⟨hd, rfl⟩ := hd
  intro a h2 e p l en R s m args below meth c b kd ka D cA cx H locs cells slots mc ms ls q1 q2 q3 q4 hS hW hl
  obtain ⟨hx, hb, hml, hown, hts, hr, hlk, hnm, hfr, hlo, hCo, hK⟩ := id cx
  obtain ⟨g, e9⟩ := am_gd_inv e; clear e
  obtain ⟨k0, n, rfl, g1, g2, g3⟩ := am_ix_spec g
  exact va_zald (n := n) (f := h.2.2.1 k0) hx hb hK hW.1 k0 2 (by rw [am_wl_get g1, g2]; rfl) rfl g3 hd (k a h2 e9 p l en R s m args below meth c b kd ka D cA cx H locs cells slots mc ms ls q1 q2 q3 q4 hS hW hl)
theorem am_aald {t : Nat} {i : Int32} {r : Option Nat} (hd : am_at mt.2.1 pc .aaload 1 pc') (ht1 : 3 ≤ t) (ht2 : t < 7) (k : am_Sm xs cv mt d rc rs pc' L (am_R (am_gr h r i.toNatClampNeg) :: st) h res) : am_Sm xs cv mt d rc rs pc L (am_I i :: am_R r :: st) h (am_gd (am_ix h r t i) res) := by
  obtain ⟨hd, rfl⟩ := hd
  intro a h2 e p l en R s m args below meth c b kd ka D cA cx H locs cells slots mc ms ls q1 q2 q3 q4 hS hW hl
  obtain ⟨hx, hb, hml, hown, hts, hr, hlk, hnm, hfr, hlo, hCo, hK⟩ := id cx
  obtain ⟨g, e9⟩ := am_gd_inv e; clear e
  obtain ⟨k0, n, rfl, g1, g2, g3⟩ := am_ix_spec g
  exact va_aldq (n := n) (f := fun j => (h.2.2.2 k0 j).map (fun k => b + k)) hx hb hK hW.1 k0 t (by rw [am_wl_get g1, g2]; simp [am_ce, show ¬ t < 3 by omega]) (am_tyo ht1 ht2) g3 hd (k a h2 e9 p l en R s m args below meth c b kd ka D cA cx H locs cells slots mc ms ls q1 q2 q3 q4 hS hW hl)
theorem am_iast {i x : Int32} {r : Option Nat} {kr : am_H → Option (α × am_H)} (hd : am_at mt.2.1 pc .iastore 1 pc') (k : ∀ h', am_Sm xs cv mt d rc rs pc' L st h' (kr h')) : am_Sm xs cv mt d rc rs pc L (am_I x :: am_I i :: am_R r :: st) h (am_gd (am_ix h r 0 i) (am_lt (am_si h r i.toNatClampNeg x) kr)) := by
  obtain ⟨hd, rfl⟩ := hd
  intro a h2 e p l en R s m args below meth c b kd ka D cA cx H locs cells slots mc ms ls q1 q2 q3 q4 hS hW hl
  obtain ⟨hx, hb, hml, hown, hts, hr, hlk, hnm, hfr, hlo, hCo, hK⟩ := id cx
  obtain ⟨g, e9⟩ := am_gd_inv e; clear e
  obtain ⟨k0, n, rfl, g1, g2, g3⟩ := am_ix_spec g
  have hcell := hW.arr g1 g2 (by decide)
  refine W.iast hx hb hcell (am_hK hK (t := 0) rfl n (fun j => .int (h.2.2.1 k0 j))) (fun q => by cases q) (by show ¬ (i < 0 ∨ (arrV _ _ _).slots.size ≤ _); rw [arrV_size]; exact g3) rfl rfl hd fun H1 e1 z oq => ?_
  skip
  refine k (am_si h (some k0) i.toNatClampNeg x) a h2 e9 p l en R s m args below meth c b kd ka D cA cx H1 _ cells slots mc ms ls q1 q2 q3 q4 (am_Sput hS z oq) (hW.put (k := k0) rfl (fun j hj => ⟨rfl, am_up_ne hj, rfl⟩) ?_ z oq) hl
  show va_at D am_cl (b + k0, am_ce b cA (h.2.1 k0) ((am_si h (some k0) i.toNatClampNeg x).2.2.1 k0) _) H1
  rw [g2, show (am_si h (some k0) i.toNatClampNeg x).2.2.1 k0 = _ from am_up_eq]
  show H1[b + k0]? = some (vp_cell _ _)
  rw [e1]
  rw [vp_cell_i, vp_cell_i, arrV_store]
  congr 2
  funext q
  by_cases hq : q = i.toNatClampNeg
  · subst hq
    simp [updV]
  · simp [updV, hq]
theorem am_cast {i x : Int32} {r : Option Nat} {kr : am_H → Option (α × am_H)} (hd : am_at mt.2.1 pc .castore 1 pc') (k : ∀ h', am_Sm xs cv mt d rc rs pc' L st h' (kr h')) : am_Sm xs cv mt d rc rs pc L (am_I x :: am_I i :: am_R r :: st) h (am_gd (am_ix h r 1 i && am_cz x) (am_lt (am_si h r i.toNatClampNeg x) kr)) := by
  obtain ⟨hd, rfl⟩ := hd
  intro a h2 e p l en R s m args below meth c b kd ka D cA cx H locs cells slots mc ms ls q1 q2 q3 q4 hS hW hl
  obtain ⟨hx, hb, hml, hown, hts, hr, hlk, hnm, hfr, hlo, hCo, hK⟩ := id cx
  obtain ⟨g, e9⟩ := am_gd_inv e; clear e
  simp only [Bool.and_eq_true] at g
  obtain ⟨g, gb⟩ := g
  obtain ⟨k0, n, rfl, g1, g2, g3⟩ := am_ix_spec g
  have hcell := hW.arr g1 g2 (by decide)
  refine W.cast hx hb hcell (am_hK hK (t := 1) rfl n (fun j => .int (h.2.2.1 k0 j))) (fun q => by cases q) (by show ¬ (i < 0 ∨ (arrV _ _ _).slots.size ≤ _); rw [arrV_size]; exact g3) rfl rfl hd fun H1 e1 z oq => ?_
  rw [am_char gb] at e1
  refine k (am_si h (some k0) i.toNatClampNeg x) a h2 e9 p l en R s m args below meth c b kd ka D cA cx H1 _ cells slots mc ms ls q1 q2 q3 q4 (am_Sput hS z oq) (hW.put (k := k0) rfl (fun j hj => ⟨rfl, am_up_ne hj, rfl⟩) ?_ z oq) hl
  show va_at D am_cl (b + k0, am_ce b cA (h.2.1 k0) ((am_si h (some k0) i.toNatClampNeg x).2.2.1 k0) _) H1
  rw [g2, show (am_si h (some k0) i.toNatClampNeg x).2.2.1 k0 = _ from am_up_eq]
  show H1[b + k0]? = some (vp_cell _ _)
  rw [e1]
  rw [vp_cell_i, vp_cell_i, arrV_store]
  congr 2
  funext q
  by_cases hq : q = i.toNatClampNeg
  · subst hq
    simp [updV]
  · simp [updV, hq]
theorem am_zast {i x : Int32} {r : Option Nat} {kr : am_H → Option (α × am_H)} (hd : am_at mt.2.1 pc .bastore 1 pc') (k : ∀ h', am_Sm xs cv mt d rc rs pc' L st h' (kr h')) : am_Sm xs cv mt d rc rs pc L (am_I x :: am_I i :: am_R r :: st) h (am_gd (am_ix h r 2 i && am_bz x) (am_lt (am_si h r i.toNatClampNeg x) kr)) := by
  obtain ⟨hd, rfl⟩ := hd
  intro a h2 e p l en R s m args below meth c b kd ka D cA cx H locs cells slots mc ms ls q1 q2 q3 q4 hS hW hl
  obtain ⟨hx, hb, hml, hown, hts, hr, hlk, hnm, hfr, hlo, hCo, hK⟩ := id cx
  obtain ⟨g, e9⟩ := am_gd_inv e; clear e
  simp only [Bool.and_eq_true] at g
  obtain ⟨g, gb⟩ := g
  have hx01 : x = 0 ∨ x = 1 := by simpa [am_bz] using gb
  obtain ⟨k0, n, rfl, g1, g2, g3⟩ := am_ix_spec g
  have hcell := hW.arr g1 g2 (by decide)
  refine W.zast hx hb hcell (am_hK hK (t := 2) rfl n (fun j => .int (h.2.2.1 k0 j))) (fun q => by cases q) (by show ¬ (i < 0 ∨ (arrV _ _ _).slots.size ≤ _); rw [arrV_size]; exact g3) rfl rfl hd fun H1 e1 z oq => ?_
  rw [show narrow .boolean (.int x) = .int x by rcases hx01 with rfl | rfl <;> rfl] at e1
  refine k (am_si h (some k0) i.toNatClampNeg x) a h2 e9 p l en R s m args below meth c b kd ka D cA cx H1 _ cells slots mc ms ls q1 q2 q3 q4 (am_Sput hS z oq) (hW.put (k := k0) rfl (fun j hj => ⟨rfl, am_up_ne hj, rfl⟩) ?_ z oq) hl
  show va_at D am_cl (b + k0, am_ce b cA (h.2.1 k0) ((am_si h (some k0) i.toNatClampNeg x).2.2.1 k0) _) H1
  rw [g2, show (am_si h (some k0) i.toNatClampNeg x).2.2.1 k0 = _ from am_up_eq]
  show H1[b + k0]? = some (vp_cell _ _)
  rw [e1]
  rw [vp_cell_i, vp_cell_i, arrV_store]
  congr 2
  funext q
  by_cases hq : q = i.toNatClampNeg
  · subst hq
    simp [updV]
  · simp [updV, hq]
theorem am_aast {t : Nat} {i : Int32} {x r : Option Nat} {kr : am_H → Option (α × am_H)} (hd : am_at mt.2.1 pc .aastore 1 pc') (ht1 : 3 ≤ t) (ht2 : t < 7) (k : ∀ h', am_Sm xs cv mt d rc rs pc' L st h' (kr h')) : am_Sm xs cv mt d rc rs pc L (am_R x :: am_I i :: am_R r :: st) h (am_gd (am_ix h r t i && am_ob h x (am_ec t)) (am_lt (am_sr h r i.toNatClampNeg x) kr)) := by
  obtain ⟨hd, rfl⟩ := hd
  intro a h2 e p l en R s m args below meth c b kd ka D cA cx H locs cells slots mc ms ls q1 q2 q3 q4 hS hW hl
  obtain ⟨hx, hb, hml, hown, hts, hr, hlk, hnm, hfr, hlo, hCo, hK⟩ := id cx
  obtain ⟨g, e9⟩ := am_gd_inv e; clear e
  simp only [Bool.and_eq_true] at g
  obtain ⟨g, gx⟩ := g
  obtain ⟨k0, n, rfl, g1, g2, g3⟩ := am_ix_spec g
  obtain ⟨kx, rfl, x1, x2⟩ := am_ob_spec gx
  have hcell := hW.arrR g1 g2 (by omega)
  obtain ⟨r, hr', cellV, w1, w2, w3, -⟩ := hW.obj x1 x2
  obtain ⟨q, hq, hqn⟩ := am_ecl ht1 ht2
  cases hr'.symm.trans hq
  have hcls := (hK.1 (am_ec t) _ hq).2
  obtain ⟨kA, comp, y1, y2, y3, -⟩ := (hK.2 t _ (am_tyo ht1 ht2)).2
  have hcomp : comp = D.1 (am_ec t) := Option.some.inj (y3.symm.trans (by rw [← hqn]; exact hcls.1))
  subst hcomp
  obtain ⟨kC, hkC, -⟩ := hcls.2
  have hlt : i.toNatClampNeg < n := Nat.not_le.mp fun q => g3 (Or.inr q)
  refine W.aast hx hb hcell (fun q h => by cases h) (fun h => by cases h) y1 y2 rfl hkC ⟨fun q => g3 (Or.inl q), by show _ < (arrV _ _ _).slots.size; rw [arrV_size]; exact hlt⟩ w1 (fun q h => by rw [w3] at h; cases h) (by rw [w2]; exact hkC) (by rw [w2]; exact va_assign hcls) rfl rfl hd fun H1 e1 z oq => ?_
  refine k (am_sr h (some k0) i.toNatClampNeg (some kx)) a h2 e9 p l en R s m args below meth c b kd ka D cA cx H1 _ cells slots mc ms ls q1 q2 q3 q4 (am_Sput hS z oq) (hW.put (k := k0) rfl (fun j hj => ⟨rfl, rfl, am_up_ne hj⟩) ?_ z oq) hl
  show va_at D am_cl (b + k0, am_ce b cA (h.2.1 k0) _ ((am_sr h (some k0) i.toNatClampNeg (some kx)).2.2.2 k0)) H1
  rw [g2, show (am_sr h (some k0) i.toNatClampNeg (some kx)).2.2.2 k0 = _ from am_up_eq]
  simp only [am_ce, show ¬ t < 3 by omega, if_false]
  show H1[b + k0]? = some (vp_cell _ _)
  rw [e1]
  rw [vp_cell_q, vp_cell_q, arrV_store]
  congr 2
  funext q
  by_cases hq : q = i.toNatClampNeg
  · subst hq
    simp [updV, va_rf]
  · simp [updV, hq]
theorem am_alen {t : Nat} {r : Option Nat} (hd : am_at mt.2.1 pc .arraylength 1 pc') (ht : t < 3) (k : am_Sm xs cv mt d rc rs pc' L (am_I (Int32.ofNat (am_ln h r)) :: st) h res) : am_Sm xs cv mt d rc rs pc L (am_R r :: st) h (am_gd (am_ar h r t) res) := by
  obtain ⟨hd, rfl⟩ := hd
  intro a h2 e p l en R s m args below meth c b kd ka D cA cx H locs cells slots mc ms ls q1 q2 q3 q4 hS hW hl
  obtain ⟨hx, hb, hml, hown, hts, hr, hlk, hnm, hfr, hlo, hCo, hK⟩ := id cx
  obtain ⟨g, e9⟩ := am_gd_inv e; clear e
  obtain ⟨k0, n, rfl, g1, g2, g3⟩ := am_ar_spec g
  have ht' : ∃ ty, (am_ty cA)[t]? = some (cA t, ty) := by
    rcases (show t = 0 ∨ t = 1 ∨ t = 2 by omega) with rfl | rfl | rfl
    · exact ⟨_, rfl⟩
    · exact ⟨_, rfl⟩
    · exact ⟨_, rfl⟩
  obtain ⟨ty, hty⟩ := ht'
  exact va_alen (x := (n, .inl (h.2.2.1 k0))) hx hb hK hW.1 k0 t (by rw [am_wl_get g1, g2]; simp [am_ce, ht]) hty (by show Int32.ofNat n = _; rw [g3]) hd (k a h2 e9 p l en R s m args below meth c b kd ka D cA cx H locs cells slots mc ms ls q1 q2 q3 q4 hS hW hl)
theorem am_Tint {b : Nat} {kd : Nat → Option Nat} {ka : Nat → Nat} {s : State} (hCo : am_Co xs b kd ka s) {c : Nat} (hc : c = 0 ∨ c = 1 ∨ c = 8) : kd c = some (ka c) ∧ va_T .int (ka c) (am_kc xs c).length (fun j => .int ((am_kc xs c).getD j 0)) (am_A b) s s.heap := by
  obtain ⟨h0, h1, h2, h3, h4, h5, ⟨t1, t2, t3⟩, h7, h8⟩ := hCo
  rcases hc with rfl | rfl | rfl
  · exact ⟨h4 0 (by decide), t1⟩
  · exact ⟨h4 1 (by decide), t2⟩
  · exact ⟨h4 8 (by decide), t3⟩
theorem am_Tbyt {b : Nat} {kd : Nat → Option Nat} {ka : Nat → Nat} {s : State} (hCo : am_Co xs b kd ka s) {c : Nat} (h12 : 12 ≤ c) (h18 : c < 18) : kd c = some (ka c) ∧ va_T .byte (ka c) (am_kc xs c).length (fun j => .int ((am_kc xs c).getD j 0)) (am_A b) s s.heap := by
  obtain ⟨h0, h1, h2, h3, h4, h5, h6, h7, h8⟩ := hCo
  refine ⟨h4 c (by omega), ?_⟩
  have := (h8.1 (c - 12) (by omega)).2.2.2
  rcases (show c = 12 ∨ c = 13 ∨ c = 14 ∨ c = 15 ∨ c = 16 ∨ c = 17 by omega) with rfl | rfl | rfl | rfl | rfl | rfl <;> exact this
theorem am_kald {i : Int32} {c : Nat} (hd : am_at mt.2.1 pc .iaload 1 pc') (hc : c = 0 ∨ c = 1 ∨ c = 8) (k : am_Sm xs cv mt d rc rs pc' L (am_I ((am_kc xs c).getD i.toNatClampNeg 0) :: st) h res) : am_Sm xs cv mt d rc rs pc L (am_I i :: am_K c :: st) h (am_gd (am_in i (am_kc xs c).length) res) := by
  obtain ⟨hd, rfl⟩ := hd
  intro a h2 e p l en R s m args below meth cd b kd ka D cA cx H locs cells slots mc ms ls q1 q2 q3 q4 hS hW hl
  obtain ⟨hx, hb, hml, hown, hts, hr, hlk, hnm, hfr, hlo, hCo, hK⟩ := id cx
  obtain ⟨g, e9⟩ := am_gd_inv e; clear e
  obtain ⟨h1, h3⟩ := am_Tint hCo hc
  have kk := (k a h2 e9 p l en R s m args below meth cd b kd ka D cA cx H locs cells slots mc ms ls q1 q2 q3 q4 hS hW hl)
  simp only [List.map_cons, am_tv, h1] at kk ⊢
  exact va_ti hx hb h3 hS (am_in_spec g) rfl hd kk
theorem am_kalb {i : Int32} {c : Nat} (hd : am_at mt.2.1 pc .baload 1 pc') (h12 : 12 ≤ c) (h18 : c < 18) (k : am_Sm xs cv mt d rc rs pc' L (am_I ((am_kc xs c).getD i.toNatClampNeg 0) :: st) h res) : am_Sm xs cv mt d rc rs pc L (am_I i :: am_K c :: st) h (am_gd (am_in i (am_kc xs c).length) res) := by
  obtain ⟨hd, rfl⟩ := hd
  intro a h2 e p l en R s m args below meth cd b kd ka D cA cx H locs cells slots mc ms ls q1 q2 q3 q4 hS hW hl
  obtain ⟨hx, hb, hml, hown, hts, hr, hlk, hnm, hfr, hlo, hCo, hK⟩ := id cx
  obtain ⟨g, e9⟩ := am_gd_inv e; clear e
  obtain ⟨h1, cell, w1, w2, w3, w4, w5, w6, w7⟩ := am_Tbyt hCo h12 h18
  have kk := (k a h2 e9 p l en R s m args below meth cd b kd ka D cA cx H locs cells slots mc ms ls q1 q2 q3 q4 hS hW hl)
  have g3 := am_in_spec g
  have hlt : i.toNatClampNeg < (am_kc xs c).length := Nat.not_le.mp fun q => g3 (Or.inr q)
  simp only [List.map_cons, am_tv, h1] at kk ⊢
  exact W.bald hx hb (by rw [hS.2.1 _ (Array.getElem?_eq_some_iff.mp w1).1 w7]; exact w1) w2 w3 (fun q => q.elim (fun q => g3 (Or.inl q)) (fun q => by omega)) (w6 _ hlt) rfl rfl hd kk
theorem am_klen {c : Nat} (hd : am_at mt.2.1 pc .arraylength 1 pc') (hc : (c = 0 ∨ c = 1 ∨ c = 8) ∨ (12 ≤ c ∧ c < 18)) (k : am_Sm xs cv mt d rc rs pc' L (am_I (Int32.ofNat (am_kc xs c).length) :: st) h res) : am_Sm xs cv mt d rc rs pc L (am_K c :: st) h res := by
  obtain ⟨hd, rfl⟩ := hd
  intro a h2 e p l en R s m args below meth cd b kd ka D cA cx H locs cells slots mc ms ls q1 q2 q3 q4 hS hW hl
  obtain ⟨hx, hb, hml, hown, hts, hr, hlk, hnm, hfr, hlo, hCo, hK⟩ := id cx
  have kk := (k a h2 e p l en R s m args below meth cd b kd ka D cA cx H locs cells slots mc ms ls q1 q2 q3 q4 hS hW hl)
  have hT : ∃ ty, kd c = some (ka c) ∧ va_T ty (ka c) (am_kc xs c).length (fun j => .int ((am_kc xs c).getD j 0)) (am_A b) s s.heap := by
    rcases hc with hc | hc
    · exact ⟨_, am_Tint hCo hc⟩
    · exact ⟨_, am_Tbyt hCo hc.1 hc.2⟩
  obtain ⟨ty, h1, cell, w1, w2, w3, w4, w5, w6, w7⟩ := hT
  simp only [List.map_cons, am_tv, h1] at kk ⊢
  exact W.alen hx hb (by rw [hS.2.1 _ (Array.getElem?_eq_some_iff.mp w1).1 w7]; exact w1) w2 w5 rfl rfl hd kk
def am_kb9 (c : Nat) : List Int32 := am_kc [] c
theorem am_kb9_eq {c : Nat} (h12 : 12 ≤ c) (h18 : c < 18) : am_kc xs c = am_kb9 c := by
  rcases (show c = 12 ∨ c = 13 ∨ c = 14 ∨ c = 15 ∨ c = 16 ∨ c = 17 by omega) with rfl | rfl | rfl | rfl | rfl | rfl <;> rfl
theorem am_kalb9 {i : Int32} {c : Nat} (hd : am_at mt.2.1 pc .baload 1 pc') (h12 : 12 ≤ c) (h18 : c < 18) (k : am_Sm xs cv mt d rc rs pc' L (am_I ((am_kb9 c).getD i.toNatClampNeg 0) :: st) h res) : am_Sm xs cv mt d rc rs pc L (am_I i :: am_K c :: st) h (am_gd (am_in i (am_kb9 c).length) res) := by
  have := am_kalb (xs := xs) (cv := cv) (mt := mt) (d := d) (rc := rc) (rs := rs) (L := L) (st := st) (h := h) (res := res) (i := i) hd h12 h18
  rw [am_kb9_eq h12 h18] at this
  exact this k
theorem am_klen9 {c : Nat} (hd : am_at mt.2.1 pc .arraylength 1 pc') (hc : 12 ≤ c ∧ c < 18) (k : am_Sm xs cv mt d rc rs pc' L (am_I (Int32.ofNat (am_kb9 c).length) :: st) h res) : am_Sm xs cv mt d rc rs pc L (am_K c :: st) h res := by
  have := am_klen (xs := xs) (cv := cv) (mt := mt) (d := d) (rc := rc) (rs := rs) (L := L) (st := st) (h := h) (res := res) hd (Or.inr hc)
  rw [am_kb9_eq hc.1 hc.2] at this
  exact this k
theorem am_kldc {c i : Nat} (hd : am_at mt.2.1 pc (.ldc i) 2 pc') (hc : c < 6) (hi : am_kp c = i) (hn : mt.1.cls = "TwoGuilds$Tape") (k : am_Sm xs cv mt d rc rs pc' L (am_K (2 + c) :: st) h res) : am_Sm xs cv mt d rc rs pc L st h res := by
  obtain ⟨hd, rfl⟩ := hd
  intro a h2 e p l en R s m args below meth cd b kd ka D cA cx H locs cells slots mc ms ls q1 q2 q3 q4 hS hW hl
  obtain ⟨hx, hb, hml, hown, hts, hr, hlk, hnm, hfr, hlo, hCo, hK⟩ := id cx
  have kk := (k a h2 e p l en R s m args below meth cd b kd ka D cA cx H locs cells slots mc ms ls q1 q2 q3 q4 hS hW hl)
  obtain ⟨h0, h1, h2', h3, h4, h5, h6, h7, h8⟩ := hCo
  rw [hn] at hown
  subst hi
  simp only [List.map_cons, am_tv, h4 (2 + c) (by omega)] at kk
  exact va_ldcS hx hb hown (h7 c hc) hd kk
/-- a text's own fields: its bytes, its coder -/
theorem am_kgetV {c i : Nat} (hd : am_at mt.2.1 pc (.getfield i) 3 pc') (hc1 : 2 ≤ c) (hc2 : c < 8) (hw : Cond.fieldLink mt.1.cls i "java/lang/String" "value" "[B" ∈ am_gw) (k : am_Sm xs cv mt d rc rs pc' L (am_K (10 + c) :: st) h res) : am_Sm xs cv mt d rc rs pc L (am_K c :: st) h res := by
  obtain ⟨hd, rfl⟩ := hd
  intro a h2 e p l en R s m args below meth cd b kd ka D cA cx H locs cells slots mc ms ls q1 q2 q3 q4 hS hW hl
  obtain ⟨hx, hb, hml, hown, hts, hr, hlk, hnm, hfr, hlo, hCo, hK⟩ := id cx
  have kk := (k a h2 e p l en R s m args below meth cd b kd ka D cA cx H locs cells slots mc ms ls q1 q2 q3 q4 hS hW hl)
  obtain ⟨h0, h1, h2', h3, h4, h5, h6, h7, h8⟩ := hCo
  have h9 := (h8.1 (c - 2) (by omega)).2.2.1
  dsimp only at h9
  rw [show 2 + (c - 2) = c by omega, show 12 + (c - 2) = 10 + c by omega] at h9
  simp only [List.map_cons, am_tv, h4 c (by omega), h4 (10 + c) (by omega)] at kk ⊢
  exact vk_getf hx hb h9 hS hown (hts _ hw) (fun _ h => h) hd kk
theorem am_kgetC {c i : Nat} (hd : am_at mt.2.1 pc (.getfield i) 3 pc') (hc1 : 2 ≤ c) (hc2 : c < 8) (hw : Cond.fieldLink mt.1.cls i "java/lang/String" "coder" "B" ∈ am_gw) (k : am_Sm xs cv mt d rc rs pc' L (am_I 0 :: st) h res) : am_Sm xs cv mt d rc rs pc L (am_K c :: st) h res := by
  obtain ⟨hd, rfl⟩ := hd
  intro a h2 e p l en R s m args below meth cd b kd ka D cA cx H locs cells slots mc ms ls q1 q2 q3 q4 hS hW hl
  obtain ⟨hx, hb, hml, hown, hts, hr, hlk, hnm, hfr, hlo, hCo, hK⟩ := id cx
  have kk := (k a h2 e p l en R s m args below meth cd b kd ka D cA cx H locs cells slots mc ms ls q1 q2 q3 q4 hS hW hl)
  obtain ⟨h0, h1, h2', h3, h4, h5, h6, h7, h8⟩ := hCo
  have h9 := (h8.1 (c - 2) (by omega)).2.1
  dsimp only at h9
  rw [show 2 + (c - 2) = c by omega] at h9
  simp only [List.map_cons, am_tv, h4 c (by omega)] at kk ⊢
  exact vk_getf hx hb h9 hS hown (hts _ hw) (fun _ h => h) hd kk
theorem am_gsKind (hd : am_at mt.2.1 pc (.getstatic 39) 3 pc') (hn : mt.1.cls = "TwoGuilds$Glove") (k : am_Sm xs cv mt d rc rs pc' L (am_K 0 :: st) h res) : am_Sm xs cv mt d rc rs pc L st h res := by
  obtain ⟨hd, rfl⟩ := hd
  intro a h2 e p l en R s m args below meth c b kd ka D cA cx H locs cells slots mc ms ls q1 q2 q3 q4 hS hW hl
  obtain ⟨hx, hb, hml, hown, hts, hr, hlk, hnm, hfr, hlo, hCo, hK⟩ := id cx
  have kk := (k a h2 e p l en R s m args below meth c b kd ka D cA cx H locs cells slots mc ms ls q1 q2 q3 q4 hS hW hl)
  obtain ⟨h0, h1, h2', h3, h4, ⟨z1, z2, z3, z4⟩, h6, h7, h8⟩ := hCo
  rw [hn] at hown
  simp only [List.map_cons, am_tv, h4 0 (by decide)] at kk
  exact va_getsN hx hb z1 hS hown (va_Nw.use rfl h2') (fun _ h => h) hd kk
theorem am_gsFive {i : Nat} (hd : am_at mt.2.1 pc (.getstatic i) 3 pc') (hw : Cond.fieldLink mt.1.cls i "TwoGuildsModel" "FIVES" "[I" ∈ am_gw) (k : am_Sm xs cv mt d rc rs pc' L (am_K 1 :: st) h res) : am_Sm xs cv mt d rc rs pc L st h res := by
  obtain ⟨hd, rfl⟩ := hd
  intro a h2 e p l en R s m args below meth c b kd ka D cA cx H locs cells slots mc ms ls q1 q2 q3 q4 hS hW hl
  obtain ⟨hx, hb, hml, hown, hts, hr, hlk, hnm, hfr, hlo, hCo, hK⟩ := id cx
  have kk := (k a h2 e p l en R s m args below meth c b kd ka D cA cx H locs cells slots mc ms ls q1 q2 q3 q4 hS hW hl)
  obtain ⟨h0, h1, h2', h3, h4, ⟨z1, z2, z3, z4⟩, h6, h7, h8⟩ := hCo
  simp only [List.map_cons, am_tv, h4 1 (by decide)] at kk
  exact va_gets hx hb z2 hS hown (hts _ hw) (fun _ h => h) hd kk
theorem am_gsComp {i : Nat} (hd : am_at mt.2.1 pc (.getstatic i) 3 pc') (hw : Cond.fieldLink mt.1.cls i "java/lang/String" "COMPACT_STRINGS" "Z" ∈ am_gw) (k : am_Sm xs cv mt d rc rs pc' L (am_I 1 :: st) h res) : am_Sm xs cv mt d rc rs pc L st h res := by
  obtain ⟨hd, rfl⟩ := hd
  intro a h2 e p l en R s m args below meth c b kd ka D cA cx H locs cells slots mc ms ls q1 q2 q3 q4 hS hW hl
  obtain ⟨hx, hb, hml, hown, hts, hr, hlk, hnm, hfr, hlo, hCo, hK⟩ := id cx
  have kk := (k a h2 e p l en R s m args below meth c b kd ka D cA cx H locs cells slots mc ms ls q1 q2 q3 q4 hS hW hl)
  obtain ⟨h0, h1, h2', h3, h4, ⟨z1, z2, z3, z4⟩, h6, h7, h8⟩ := hCo
  exact va_gets hx hb z3 hS hown (hts _ hw) (fun _ h => h) hd kk
theorem am_gsForm {i : Nat} (hd : am_at mt.2.1 pc (.getstatic i) 3 pc') (hw : Cond.fieldLink mt.1.cls i "jdk/internal/util/Preconditions" "SIOOBE_FORMATTER" "Ljava/util/function/BiFunction;" ∈ am_gw) (k : am_Sm xs cv mt d rc rs pc' L (am_K 20 :: st) h res) : am_Sm xs cv mt d rc rs pc L st h res := by
  obtain ⟨hd, rfl⟩ := hd
  intro a h2 e p l en R s m args below meth c b kd ka D cA cx H locs cells slots mc ms ls q1 q2 q3 q4 hS hW hl
  obtain ⟨hx, hb, hml, hown, hts, hr, hlk, hnm, hfr, hlo, hCo, hK⟩ := id cx
  have kk := (k a h2 e p l en R s m args below meth c b kd ka D cA cx H locs cells slots mc ms ls q1 q2 q3 q4 hS hW hl)
  obtain ⟨h0, h1, h2', h3, h4, ⟨z1, z2, z3, z4⟩, h6, h7, h8⟩ := hCo
  exact va_gets hx hb z4 hS hown (hts _ hw) (fun _ h => h) hd kk
theorem am_new {i ci : Nat} {kr : am_H → Option (α × am_H)} (hd : am_at mt.2.1 pc (.new i) 3 pc') (hc : ∃ q : vw_C, am_cl[ci]? = some q ∧ Cond.classLink mt.1.cls i q.1 ∈ am_gw ∧ Cond.instantiable q.1 q.2.2 ∈ am_gw ∧ Cond.initialized q.1 ∈ am_gw) (h1 : rc' + 1 ≤ rc) (h2 : rs' + am_nf ci ≤ rs) (k : ∀ h', am_Sm xs cv mt d rc' rs' pc' L (am_R (some h.1) :: st) h' (kr h')) : am_Sm xs cv mt d rc rs pc L st h (am_lt (am_nw h (.inr ci)) kr) := by
  obtain ⟨hd, rfl⟩ := hd
  intro a hz e p l en R s m args below meth c b kd ka D cA cx H locs cells slots mc ms ls q1 q2 q3 q4 hS hW hl
  obtain ⟨hx, hb, hml, hown, hts, hr, hlk, hnm, hfr, hlo, hCo, hK⟩ := id cx
  obtain ⟨q, hq, w1, w2, w3⟩ := hc
  obtain ⟨c1, c2, c3, c4⟩ := am_clok ci q hq
  have hKn := hK.1 ci _ hq
  refine W.newcK hx hb hown (hts _ w1) (hts _ w2) (hts _ w3) rfl hd (by omega) (by rw [c2]; omega) hKn.2.1 rfl fun H1 kC hkC e1 z1 o1 => ?_
  have key := k _ a hz e p l en R s m args below meth c b kd ka D cA cx H1 locs (cells + 1) (slots + q.2.2) mc ms ls (by omega) (by rw [c2]; omega) q3 q4 (am_Snew hS z1 o1) (hW.new (sh := .inr ci) ?_ z1 o1) hl
  · have hsz := hW.2
    rw [hsz]
    exact key
  · show ∃ r : vw_C, _ ∧ _
    refine ⟨q, hq, (u_born (am_tf ci) hts c1 hKn hkC (by rw [← hW.2]; exact e1) c3).to (fun j hj => ?_)⟩
    have hj2 : j < am_nf ci := by rw [← c2]; exact hj
    have : vp_V (am_fs b ci (fun _ => 0) (fun _ => none)) j = (if am_ir ci j then va_rf ((none : Option Nat).map (fun k => b + k)) else .int 0) := by
      simp [vp_V, am_fs_get hj2]
    show _ = vp_V (am_fs b ci (fun _ => 0) (fun _ => none)) j
    rw [this]
    have hp := c3 j hj
    unfold am_ir
    cases ht : am_tf ci j <;> first | rfl | (exfalso; exact (am_prim ci j).1 ht) | (exfalso; exact (am_prim ci j).2.1 ht) | (exfalso; exact (am_prim ci j).2.2 ht)
theorem am_newI {n : Int32} {N : Nat} {kr : am_H → Option (α × am_H)} (hd : am_at mt.2.1 pc (.newarray .int) 2 pc') (hw : Cond.arrayClass .int ∈ am_gw) (hn : ¬ n < 0) (hN : n.toNatClampNeg = N) (hN2 : N ≤ 100000) (h1 : rc' + 1 ≤ rc) (h2 : rs' + N ≤ rs) (k : ∀ h', am_Sm xs cv mt d rc' rs' pc' L (am_R (some h.1) :: st) h' (kr h')) : am_Sm xs cv mt d rc rs pc L (am_I n :: st) h (am_lt (am_nw h (.inl (0, N))) kr) := by
  obtain ⟨hd, rfl⟩ := hd
  intro a hz e p l en R s m args below meth c b kd ka D cA cx H locs cells slots mc ms ls q1 q2 q3 q4 hS hW hl
  obtain ⟨hx, hb, hml, hown, hts, hr, hlk, hnm, hfr, hlo, hCo, hK⟩ := id cx
  refine va_newaK hx hb (atype := .int) (hts _ hw) rfl hd rfl hn hN (by show N * _ ≤ _; simp only [componentBytes, newarray.typeOf]; omega) (by omega) (by omega) rfl fun H1 cA' e1 z1 o1 hAr hNm => ?_
  have hc : cA' = cA 0 := Option.some.inj (hNm.symm.trans (hK.2 0 (cA 0, .int) rfl).2)
  subst hc
  have key := k _ a hz e p l en R s m args below meth c b kd ka D cA cx H1 locs (cells + 1) (slots + N) mc ms ls (by omega) (by omega) q3 q4 (am_Snew hS z1 o1) (hW.new (sh := .inl (0, N)) (am_rep D cA b 0 N _ H1 (by decide) (by rw [← hW.2]; exact e1)) z1 o1) hl
  have hsz := hW.2
  rw [hsz]
  exact key
theorem am_newC {n : Int32} {N : Nat} {kr : am_H → Option (α × am_H)} (hd : am_at mt.2.1 pc (.newarray .char) 2 pc') (hw : Cond.arrayClass .char ∈ am_gw) (hn : ¬ n < 0) (hN : n.toNatClampNeg = N) (hN2 : N ≤ 100000) (h1 : rc' + 1 ≤ rc) (h2 : rs' + N ≤ rs) (k : ∀ h', am_Sm xs cv mt d rc' rs' pc' L (am_R (some h.1) :: st) h' (kr h')) : am_Sm xs cv mt d rc rs pc L (am_I n :: st) h (am_lt (am_nw h (.inl (1, N))) kr) := by
  obtain ⟨hd, rfl⟩ := hd
  intro a hz e p l en R s m args below meth c b kd ka D cA cx H locs cells slots mc ms ls q1 q2 q3 q4 hS hW hl
  obtain ⟨hx, hb, hml, hown, hts, hr, hlk, hnm, hfr, hlo, hCo, hK⟩ := id cx
  refine va_newaK hx hb (atype := .char) (hts _ hw) rfl hd rfl hn hN (by show N * _ ≤ _; simp only [componentBytes, newarray.typeOf]; omega) (by omega) (by omega) rfl fun H1 cA' e1 z1 o1 hAr hNm => ?_
  have hc : cA' = cA 1 := Option.some.inj (hNm.symm.trans (hK.2 1 (cA 1, .char) rfl).2)
  subst hc
  have key := k _ a hz e p l en R s m args below meth c b kd ka D cA cx H1 locs (cells + 1) (slots + N) mc ms ls (by omega) (by omega) q3 q4 (am_Snew hS z1 o1) (hW.new (sh := .inl (1, N)) (am_rep D cA b 1 N _ H1 (by decide) (by rw [← hW.2]; exact e1)) z1 o1) hl
  have hsz := hW.2
  rw [hsz]
  exact key
theorem am_newZ {n : Int32} {N : Nat} {kr : am_H → Option (α × am_H)} (hd : am_at mt.2.1 pc (.newarray .boolean) 2 pc') (hw : Cond.arrayClass .boolean ∈ am_gw) (hn : ¬ n < 0) (hN : n.toNatClampNeg = N) (hN2 : N ≤ 100000) (h1 : rc' + 1 ≤ rc) (h2 : rs' + N ≤ rs) (k : ∀ h', am_Sm xs cv mt d rc' rs' pc' L (am_R (some h.1) :: st) h' (kr h')) : am_Sm xs cv mt d rc rs pc L (am_I n :: st) h (am_lt (am_nw h (.inl (2, N))) kr) := by
  obtain ⟨hd, rfl⟩ := hd
  intro a hz e p l en R s m args below meth c b kd ka D cA cx H locs cells slots mc ms ls q1 q2 q3 q4 hS hW hl
  obtain ⟨hx, hb, hml, hown, hts, hr, hlk, hnm, hfr, hlo, hCo, hK⟩ := id cx
  refine va_newaK hx hb (atype := .boolean) (hts _ hw) rfl hd rfl hn hN (by show N * _ ≤ _; simp only [componentBytes, newarray.typeOf]; omega) (by omega) (by omega) rfl fun H1 cA' e1 z1 o1 hAr hNm => ?_
  have hc : cA' = cA 2 := Option.some.inj (hNm.symm.trans (hK.2 2 (cA 2, .boolean) rfl).2)
  subst hc
  have key := k _ a hz e p l en R s m args below meth c b kd ka D cA cx H1 locs (cells + 1) (slots + N) mc ms ls (by omega) (by omega) q3 q4 (am_Snew hS z1 o1) (hW.new (sh := .inl (2, N)) (am_rep D cA b 2 N _ H1 (by decide) (by rw [← hW.2]; exact e1)) z1 o1) hl
  have hsz := hW.2
  rw [hsz]
  exact key
theorem am_newR {t i : Nat} {n : Int32} {N : Nat} {kr : am_H → Option (α × am_H)} (hd : am_at mt.2.1 pc (.anewarray i) 3 pc') (ht1 : 3 ≤ t) (ht2 : t < 7) (hw : Cond.classLink mt.1.cls i (am_en t) ∈ am_gw) (hn : ¬ n < 0) (hN : n.toNatClampNeg = N) (hN2 : N ≤ 100000) (h1 : rc' + 1 ≤ rc) (h2 : rs' + N ≤ rs) (k : ∀ h', am_Sm xs cv mt d rc' rs' pc' L (am_R (some h.1) :: st) h' (kr h')) : am_Sm xs cv mt d rc rs pc L (am_I n :: st) h (am_lt (am_nw h (.inl (t, N))) kr) := by
  obtain ⟨hd, rfl⟩ := hd
  intro a hz e p l en R s m args below meth c b kd ka D cA cx H locs cells slots mc ms ls q1 q2 q3 q4 hS hW hl
  obtain ⟨hx, hb, hml, hown, hts, hr, hlk, hnm, hfr, hlo, hCo, hK⟩ := id cx
  have hAO : va_AO (am_en t) s := by
    obtain ⟨-, -, -, ⟨a1, a2, a3, a4⟩, -⟩ := hCo
    rcases (show t = 3 ∨ t = 4 ∨ t = 5 ∨ t = 6 by omega) with rfl | rfl | rfl | rfl
    · exact a1
    · exact a2
    · exact a3
    · exact a4
  subst hN
  refine W.anew hx hb hown (hts _ hw) (va_AO.use hAO) rfl hd rfl hn (by omega) (by omega) (by omega) fun cA' kA comp f1 f2 f3 f4 => ?_
  obtain ⟨kB, comp2, y1, y2, y3, y4⟩ := (hK.2 t _ (am_tyo ht1 ht2)).2
  have hc : cA' = cA t := Option.some.inj (f1.symm.trans y4)
  subst hc
  generalize hH1 : H.push ({ cls := cA t, slots := Array.replicate n.toNatClampNeg .null, vm := .none } : Cell) = H1
  have z1 : H1.size = H.size + 1 := by rw [← hH1, Array.size_push]
  have e1 : H1[H.size]? = some (arrV (cA t) n.toNatClampNeg (fun _ => .null)) := by rw [← hH1, Array.getElem?_push_size, ← arrV_new]
  have o1 : ∀ q : Nat, q < H.size → H1[q]? = H[q]? := fun q hq => by rw [← hH1, Array.getElem?_push, if_neg (Nat.ne_of_lt hq)]
  have key := k _ a hz e p l en R s m args below meth c b kd ka D cA cx H1 locs (cells + 1) (slots + n.toNatClampNeg) mc ms ls (by omega) (by omega) q3 q4 (am_Snew hS z1 o1) (hW.new (sh := .inl (t, n.toNatClampNeg)) (am_repR D cA b t _ _ H1 (by omega) (by rw [← hW.2]; exact e1)) z1 o1) hl
  have hsz := hW.2
  rw [hsz]
  exact key
end AM7
