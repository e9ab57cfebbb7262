/-! ===== the rules: fields and arrays ===== -/
theorem am_inX0 : ∀ w ∈ u_ws RX0 TX0 3, w ∈ am_gw := by
  have h : (u_ws RX0 TX0 3).all (fun w => decide (w ∈ lw_tbl) && goodWord w) = true := by decide +kernel
  intro w hw
  have h1 := List.all_eq_true.mp h w hw
  simp only [Bool.and_eq_true, decide_eq_true_eq] at h1
  exact am_gw_of h1.1 h1.2
theorem am_inX1 : ∀ w ∈ u_ws RX1 TX1 6, w ∈ am_gw := by
  have h : (u_ws RX1 TX1 6).all (fun w => decide (w ∈ lw_tbl) && goodWord w) = true := by decide +kernel
  intro w hw
  have h1 := List.all_eq_true.mp h w hw
  simp only [Bool.and_eq_true, decide_eq_true_eq] at h1
  exact am_gw_of h1.1 h1.2
theorem am_inX2 : ∀ w ∈ u_ws RX2 TX2 10, w ∈ am_gw := by
  have h : (u_ws RX2 TX2 10).all (fun w => decide (w ∈ lw_tbl) && goodWord w) = true := by decide +kernel
  intro w hw
  have h1 := List.all_eq_true.mp h w hw
  simp only [Bool.and_eq_true, decide_eq_true_eq] at h1
  exact am_gw_of h1.1 h1.2
theorem am_inX3 : ∀ w ∈ u_ws RX3 TX3 4, w ∈ am_gw := by
  have h : (u_ws RX3 TX3 4).all (fun w => decide (w ∈ lw_tbl) && goodWord w) = true := by decide +kernel
  intro w hw
  have h1 := List.all_eq_true.mp h w hw
  simp only [Bool.and_eq_true, decide_eq_true_eq] at h1
  exact am_gw_of h1.1 h1.2
theorem am_inX4 : ∀ w ∈ u_ws RX4 TX4 3, w ∈ am_gw := by
  have h : (u_ws RX4 TX4 3).all (fun w => decide (w ∈ lw_tbl) && goodWord w) = true := by decide +kernel
  intro w hw
  have h1 := List.all_eq_true.mp h w hw
  simp only [Bool.and_eq_true, decide_eq_true_eq] at h1
  exact am_gw_of h1.1 h1.2
theorem am_inX5 : ∀ w ∈ u_ws RX5 TX5 3, w ∈ am_gw := by
  have h : (u_ws RX5 TX5 3).all (fun w => decide (w ∈ lw_tbl) && goodWord w) = true := by decide +kernel
  intro w hw
  have h1 := List.all_eq_true.mp h w hw
  simp only [Bool.and_eq_true, decide_eq_true_eq] at h1
  exact am_gw_of h1.1 h1.2
theorem am_inX6 : ∀ w ∈ u_ws RX6 TX6 4, w ∈ am_gw := by
  have h : (u_ws RX6 TX6 4).all (fun w => decide (w ∈ lw_tbl) && goodWord w) = true := by decide +kernel
  intro w hw
  have h1 := List.all_eq_true.mp h w hw
  simp only [Bool.and_eq_true, decide_eq_true_eq] at h1
  exact am_gw_of h1.1 h1.2
theorem am_inX7 : ∀ w ∈ u_ws RX7 TX7 4, w ∈ am_gw := by
  have h : (u_ws RX7 TX7 4).all (fun w => decide (w ∈ lw_tbl) && goodWord w) = true := by decide +kernel
  intro w hw
  have h1 := List.all_eq_true.mp h w hw
  simp only [Bool.and_eq_true, decide_eq_true_eq] at h1
  exact am_gw_of h1.1 h1.2
theorem am_inX8 : ∀ w ∈ u_ws RX8 TX8 7, w ∈ am_gw := by
  have h : (u_ws RX8 TX8 7).all (fun w => decide (w ∈ lw_tbl) && goodWord w) = true := by decide +kernel
  intro w hw
  have h1 := List.all_eq_true.mp h w hw
  simp only [Bool.and_eq_true, decide_eq_true_eq] at h1
  exact am_gw_of h1.1 h1.2
theorem am_inX9 : ∀ w ∈ u_ws RX9 TX9 12, w ∈ am_gw := by
  have h : (u_ws RX9 TX9 12).all (fun w => decide (w ∈ lw_tbl) && goodWord w) = true := by decide +kernel
  intro w hw
  have h1 := List.all_eq_true.mp h w hw
  simp only [Bool.and_eq_true, decide_eq_true_eq] at h1
  exact am_gw_of h1.1 h1.2
theorem am_inX10 : ∀ w ∈ u_ws RX10 TX10 36, w ∈ am_gw := by
  have h : (u_ws RX10 TX10 36).all (fun w => decide (w ∈ lw_tbl) && goodWord w) = true := by decide +kernel
  intro w hw
  have h1 := List.all_eq_true.mp h w hw
  simp only [Bool.and_eq_true, decide_eq_true_eq] at h1
  exact am_gw_of h1.1 h1.2
theorem am_clok : ∀ (ci : Nat) (q : vw_C), am_cl[ci]? = some q → (∀ w ∈ u_ws q.1 q.2.1 q.2.2, w ∈ am_gw) ∧ q.2.2 = am_nf ci ∧ (∀ k, k < q.2.2 → parseFieldDescriptor (q.2.1 k).2.2.1 = some (am_tf ci k)) ∧ (∀ a, a < q.2.2 → ∀ b, b < q.2.2 → a ≠ b → (q.2.1 a).2.1 ≠ (q.2.1 b).2.1) := by
  intro ci q hq
  by_cases h0 : ci = 0
  · subst h0; cases hq; exact ⟨am_inX0, rfl, tyX0_ok, nmX0⟩
  by_cases h1 : ci = 1
  · subst h1; cases hq; exact ⟨am_inX1, rfl, tyX1_ok, nmX1⟩
  by_cases h2 : ci = 2
  · subst h2; cases hq; exact ⟨am_inX2, rfl, tyX2_ok, nmX2⟩
  by_cases h3 : ci = 3
  · subst h3; cases hq; exact ⟨am_inX3, rfl, tyX3_ok, nmX3⟩
  by_cases h4 : ci = 4
  · subst h4; cases hq; exact ⟨am_inX4, rfl, tyX4_ok, nmX4⟩
  by_cases h5 : ci = 5
  · subst h5; cases hq; exact ⟨am_inX5, rfl, tyX5_ok, nmX5⟩
  by_cases h6 : ci = 6
  · subst h6; cases hq; exact ⟨am_inX6, rfl, tyX6_ok, nmX6⟩
  by_cases h7 : ci = 7
  · subst h7; cases hq; exact ⟨am_inX7, rfl, tyX7_ok, nmX7⟩
  by_cases h8 : ci = 8
  · subst h8; cases hq; exact ⟨am_inX8, rfl, tyX8_ok, nmX8⟩
  by_cases h9 : ci = 9
  · subst h9; cases hq; exact ⟨am_inX9, rfl, tyX9_ok, nmX9⟩
  by_cases h10 : ci = 10
  · subst h10; cases hq; exact ⟨am_inX10, rfl, tyX10_ok, nmX10⟩
  have hl : ci < am_cl.length := (List.getElem?_eq_some_iff.mp hq).1
  have hl : ci < 11 := hl
  omega
/-- field j of class ci, by the entry i of the class own -/
def am_fk (own : String) (i ci j : Nat) : Prop := ∃ q : vw_C, am_cl[ci]? = some q ∧ j < q.2.2 ∧ Cond.fieldLink own i (q.2.1 j).1 (q.2.1 j).2.1 (q.2.1 j).2.2.1 ∈ am_gw
def am_fin (own nm : String) (ci j : Nat) : Prop := ∃ q : vw_C, am_cl[ci]? = some q ∧ ((q.2.1 j).2.2.2 = false ∨ ((q.2.1 j).2.2.2 = true ∧ nm = "<init>" ∧ (q.2.1 j).1 = own))
theorem am_W.obj {D : va_G} {cA : Nat → ClassId} {b : Nat} {h : am_H} {H : Heap} {k ci : Nat} (hW : am_W D cA b h H) (hk : k < h.1) (hs : h.2.1 k = .inr ci) : va_at D am_cl (b + k, .inr (ci, am_fs b ci (h.2.2.1 k) (h.2.2.2 k))) H := by
  have h1 := hW.1 k _ (am_wl_get hk)
  rw [hs] at h1
  exact h1
theorem am_W.arr {D : va_G} {cA : Nat → ClassId} {b : Nat} {h : am_H} {H : Heap} {k t n : Nat} (hW : am_W D cA b h H) (hk : k < h.1) (hs : h.2.1 k = .inl (t, n)) (ht : t < 3) : H[b + k]? = some (vp_cell (cA t) (n, .inl (h.2.2.1 k))) := by
  have h1 := hW.1 k _ (am_wl_get hk)
  rw [hs] at h1
  simpa [am_ce, ht, va_at] using h1
theorem am_W.arrR {D : va_G} {cA : Nat → ClassId} {b : Nat} {h : am_H} {H : Heap} {k t n : Nat} (hW : am_W D cA b h H) (hk : k < h.1) (hs : h.2.1 k = .inl (t, n)) (ht : ¬ t < 3) : H[b + k]? = some (vp_cell (cA t) (n, .inr (.inr (.inr (.inr (fun j => (h.2.2.2 k j).map (fun k => b + k))))))) := by
  have h1 := hW.1 k _ (am_wl_get hk)
  rw [hs] at h1
  simpa [am_ce, ht, va_at] using h1
theorem am_W.put {D : va_G} {cA : Nat → ClassId} {b : Nat} {h h' : am_H} {H H1 : Heap} {k : Nat} (hW : am_W D cA b h H) (hn : h'.1 = h.1) (ho : ∀ j, j ≠ k → h'.2.1 j = h.2.1 j ∧ h'.2.2.1 j = h.2.2.1 j ∧ h'.2.2.2 j = h.2.2.2 j) (he : va_at D am_cl (b + k, am_ce b cA (h'.2.1 k) (h'.2.2.1 k) (h'.2.2.2 k)) H1) (z : H1.size = H.size) (oq : ∀ q : Nat, q ≠ b + k → H1[q]? = H[q]?) : am_W D cA b h' H1 := by
  refine ⟨fun i q hq => ?_, by rw [z, hW.2, hn]⟩
  obtain ⟨hi, rfl⟩ := am_wl_inv hq
  by_cases hik : i = k
  · subst hik
    exact he
  · obtain ⟨o1, o2, o3⟩ := ho i hik
    rw [o1, o2, o3]
    exact (hW.1 i _ (am_wl_get (by omega))).kept (oq _ (by show b + i ≠ b + k; omega))
theorem am_Sput {b a k : Nat} {H0 H H1 : Heap} {locs : List Loc} (hS : va_S (am_A b) H0 H locs) (z : H1.size = H.size) (oq : ∀ q : Nat, q ≠ b + k → H1[q]? = H[q]?) : va_S (am_A b) H0 H1 (locs ++ [⟨b + k, a⟩]) := hS.put z oq (Nat.le_add_right b k)
theorem am_hK {cA : Nat → ClassId} {D : va_G} {s : State} (hK : va_K D am_cl (am_ty cA) s) {t : Nat} {ty : FieldType} (ht : (am_ty cA)[t]? = some (cA t, ty)) : ArrOfT s (cA t) ty := (hK.2 t _ ht).1
section AM6
variable {α : Type} {xs : List Int32} {cv : α → Option am_V} {mt : am_M} {d rc rs pc pc' : Nat} {L L' : List (Option am_V)} {st : List am_V} {h : am_H} {res : Option (α × am_H)}
theorem am_getI {i ci j : Nat} {r : Option Nat} (hd : am_at mt.2.1 pc (.getfield i) 3 pc') (hf : am_fk mt.1.cls i ci j) (hr0 : am_ir ci j = false) (k : am_Sm xs cv mt d rc rs pc' L (am_I (am_gi h r j) :: st) h res) : am_Sm xs cv mt d rc rs pc L (am_R r :: st) h (am_gd (am_ob h r ci) res) := by
  obtain ⟨hd, rfl⟩ := hd
  intro a h2 e p l en R s m args below meth c b kd ka D cA cx H locs cells slots mc ms ls q1 q2 q3 q4 hS hW hl
  obtain ⟨hx, hb, hml, hown, hts, hr, hlk, hnm, hfr, hlo, hCo, hK⟩ := id cx
  obtain ⟨g, e9⟩ := am_gd_inv e; clear e
  obtain ⟨k0, rfl, g1, g2⟩ := am_ob_spec g
  obtain ⟨q, hq, hj, hw⟩ := hf
  obtain ⟨c1, c2, c3, c4⟩ := am_clok ci q hq
  refine va_get (D := D) (ci := ci) (v := .int (h.2.2.1 k0 j)) (C := q.1) (T := q.2.1) (N := q.2.2) hx hb hts c1 hown hK hW.1 k0 (by rw [am_wl_get g1, g2]; rfl) hq j hj (hts _ hw) (fun _ h9 => h9) ?_ hd (k a h2 e9 p l en R s m args below meth c b kd ka D cA cx H locs cells slots mc ms ls q1 q2 q3 q4 hS hW hl)
  rw [am_fs_get (by rw [← c2]; exact hj), hr0]
  rfl
theorem am_getR {i ci j : Nat} {r : Option Nat} (hd : am_at mt.2.1 pc (.getfield i) 3 pc') (hf : am_fk mt.1.cls i ci j) (hr0 : am_ir ci j = true) (k : am_Sm xs cv mt d rc rs pc' L (am_R (am_gr h r j) :: st) h res) : am_Sm xs cv mt d rc rs pc L (am_R r :: st) h (am_gd (am_ob h r ci) res) := by
  obtain ⟨hd, rfl⟩ := hd
  intro a h2 e p l en R s m args below meth c b kd ka D cA cx H locs cells slots mc ms ls q1 q2 q3 q4 hS hW hl
  obtain ⟨hx, hb, hml, hown, hts, hr, hlk, hnm, hfr, hlo, hCo, hK⟩ := id cx
  obtain ⟨g, e9⟩ := am_gd_inv e; clear e
  obtain ⟨k0, rfl, g1, g2⟩ := am_ob_spec g
  obtain ⟨q, hq, hj, hw⟩ := hf
  obtain ⟨c1, c2, c3, c4⟩ := am_clok ci q hq
  refine va_get (D := D) (ci := ci) (v := va_rf ((h.2.2.2 k0 j).map (fun k => b + k))) (C := q.1) (T := q.2.1) (N := q.2.2) hx hb hts c1 hown hK hW.1 k0 (by rw [am_wl_get g1, g2]; rfl) hq j hj (hts _ hw) (fun _ h9 => h9) ?_ hd (k a h2 e9 p l en R s m args below meth c b kd ka D cA cx H locs cells slots mc ms ls q1 q2 q3 q4 hS hW hl)
  rw [am_fs_get (by rw [← c2]; exact hj), hr0]
  rfl
theorem am_vput {p : Program} {l : Launch} {e : Env} {R : Room} {s : State} {m : MethodId} {args : Array Value} {below : List Frame} {meth : Method} {c : Code} {H : Heap} {locs : List Loc} {cells slots : Nat} {Q : State → Prop} {pc0 : Nat} {ls : Array Slot} {rest : List Value} {b : Nat} {kd : Nat → Option Nat} {ka : Nat → Nat} {D : va_G} {cA : Nat → ClassId} {i ci j k0 : Nat} {ty : FieldType} {v : Value} {h h' : am_H}
    (cx : am_Cx xs mt d p R s m args meth c b kd ka D cA) (hS : va_S (am_A b) s.heap H locs) (hW : am_W D cA b h H) (hd : decode mt.2.1 pc0 = .ok (.putfield i, 3)) (hf : am_fk mt.1.cls i ci j) (hfin : am_fin mt.1.cls mt.1.name ci j) (hty : am_tf ci j = ty) (hn : narrow ty v = v) (hfit : fits ty v = true) (g1 : k0 < h.1) (g2 : h.2.1 k0 = .inr ci)
    (hn' : h'.1 = h.1) (hs' : h'.2.1 = h.2.1) (ho : ∀ z, z ≠ k0 → h'.2.2.1 z = h.2.2.1 z ∧ h'.2.2.2 z = h.2.2.2 z) (hfs : (am_fs b ci (h.2.2.1 k0) (h.2.2.2 k0)).set j v = am_fs b ci (h'.2.2.1 k0) (h'.2.2.2 k0))
    (kk : ∀ (H1 : Heap) (locs1 : List Loc), va_S (am_A b) s.heap H1 locs1 → am_W D cA b h' H1 → W p l e R s m args below meth c H1 locs1 cells slots Q (F0 m (pc0 + 3) ls rest)) : W p l e R s m args below meth c H locs cells slots Q (F0 m pc0 ls (v :: .ref (b + k0) :: rest)) := by
  obtain ⟨hx, hb, hml, hown, hts, hr, hlk, hnm, hfr, hlo, hCo, hK⟩ := id cx
  obtain ⟨q, hq, hj, hw⟩ := hf
  obtain ⟨c1, c2, c3, c4⟩ := am_clok ci q hq
  obtain ⟨q', hq', hfin⟩ := hfin
  cases hq.symm.trans hq'
  have hap := va_apart (own := mt.1.cls) hts c1 (am_tf ci) c3 c4 hK hq
  obtain ⟨r, h1, cell, w1, w2, w3, w4⟩ := hW.obj g1 g2
  have hr : r = q := Option.some.inj (h1.symm.trans hq)
  subst hr
  obtain ⟨hSl, hfc, kC, hkC, hkind⟩ := hK.1 ci _ hq
  obtain ⟨cf, kf, fi, f, hi, hsl⟩ := hSl j hj
  have hlay := hts _ (c1 _ (u_in_lay hj))
  have hst := (u_facts hfc hkC (u_lays hts c1 hj) hi).1
  have hlt : f.slot < cell.slots.size := by rw [hsl]; exact k2_hasslot (w4 j hj)
  have hlen : j < (am_fs b ci (h.2.2.1 k0) (h.2.2.2 k0)).length := by rw [am_fs_len, ← c2]; exact hj
  have fin : ∀ H' : Heap, H'[b + k0]? = some (cell.setSlot f.slot v) → H'.size = H.size → (∀ z : Nat, z ≠ b + k0 → H'[z]? = H[z]?) → W p l e R s m args below meth c H' (locs ++ [⟨b + k0, f.slot⟩]) cells slots Q (F0 m (pc0 + 3) ls rest) := by
    intro H' e1 e2 e3
    refine kk H' _ (am_Sput hS e2 e3) (hW.put (k := k0) hn' (fun z hz => ⟨by rw [hs'], (ho z hz).1, (ho z hz).2⟩) ?_ e2 e3)
    rw [hs', g2]
    show va_at D am_cl (b + k0, .inr (ci, am_fs b ci (h'.2.2.1 k0) (h'.2.2.2 k0))) H'
    rw [← hfs]
    rw [hsl] at e1
    exact ⟨_, hq, t_OB.to (V := updV (vp_V (am_fs b ci (h.2.2.1 k0) (h.2.2.2 k0))) j v) ⟨_, e1, w2, w3, t_set w4 hap hj v⟩ (fun z _ => vp_updV_set hlen v z)⟩
  have hd3 := (c3 j hj).trans (congrArg some hty)
  unfold u_lay at hlay
  rcases hfin with hfin | ⟨hfin, hin, hdecl⟩
  · rw [if_neg (by rw [hfin]; decide)] at hlay
    have h6 := u_store hfc hkC hkind hlay hi hd3 hn hfit
    exact W.putK hx hb (f := f) ⟨hown, hts _ hw, ⟨_, _, _, hi⟩, hst⟩ (by rw [w2]; exact h6) w1 w3 hlt rfl rfl hd fin
  · rw [if_pos hfin] at hlay
    have hcf : m.cls = cf := by
      obtain ⟨_, _, c', _, _, _, -, -, hf', -, -, -, hown2, -⟩ := Cond.laysFinal_spec hlay
      have e1 : c' = cf := by have := hi.symm.trans hf'; simp at this; exact this.1.symm
      rw [hdecl] at hown2
      rw [← e1]; exact Option.some.inj (hown.symm.trans hown2)
    have h6 := u_fits hfc hkC hkind (Or.inr hlay) hi hd3 hn hfit
    exact W.putFinK hx hb hown (hts _ hw) hi hst hcf (hnm hin) (by rw [w2]; exact h6) w1 w3 hlt rfl rfl hd fin
theorem am_putI {i ci j : Nat} {r : Option Nat} {x : Int32} {kr : am_H → Option (α × am_H)} (hd : am_at mt.2.1 pc (.putfield i) 3 pc') (hf : am_fk mt.1.cls i ci j) (hfin : am_fin mt.1.cls mt.1.name ci j) (hty : am_tf ci j = .int) (k : ∀ h', am_Sm xs cv mt d rc rs pc' L st h' (kr h')) : am_Sm xs cv mt d rc rs pc L (am_I x :: am_R r :: st) h (am_gd (am_ob h r ci) (am_lt (am_si h r j x) kr)) := by
  obtain ⟨hd, rfl⟩ := hd
  intro a h2 e p l en R s m args below meth c b kd ka D cA cx H locs cells slots mc ms ls q1 q2 q3 q4 hS hW hl
  obtain ⟨g, e9⟩ := am_gd_inv e; clear e

  obtain ⟨k0, rfl, g1, g2⟩ := am_ob_spec g
  exact am_vput (v := .int x) cx hS hW hd hf hfin hty rfl rfl g1 g2 (h' := am_si h (some k0) j x) rfl rfl (fun z hz => ⟨am_up_ne hz, rfl⟩) ((am_fs_set_i (by simp [am_ir, hty])).trans (by rw [show (am_si h (some k0) j x).2.2.1 k0 = _ from am_up_eq]; rfl)) (fun H1 locs1 hS1 hW1 => k (am_si h (some k0) j x) a h2 e9 p l en R s m args below meth c b kd ka D cA cx H1 locs1 cells slots mc ms ls q1 q2 q3 q4 hS1 hW1 hl)
theorem am_putZ {i ci j : Nat} {r : Option Nat} {x : Int32} {kr : am_H → Option (α × am_H)} (hd : am_at mt.2.1 pc (.putfield i) 3 pc') (hf : am_fk mt.1.cls i ci j) (hfin : am_fin mt.1.cls mt.1.name ci j) (hty : am_tf ci j = .boolean) (k : ∀ h', am_Sm xs cv mt d rc rs pc' L st h' (kr h')) : am_Sm xs cv mt d rc rs pc L (am_I x :: am_R r :: st) h (am_gd (am_ob h r ci && am_bz x) (am_lt (am_si h r j x) kr)) := by
  obtain ⟨hd, rfl⟩ := hd
  intro a h2 e p l en R s m args below meth c b kd ka D cA cx H locs cells slots mc ms ls q1 q2 q3 q4 hS hW hl
  obtain ⟨g, e9⟩ := am_gd_inv e; clear e
  simp only [Bool.and_eq_true] at g
  obtain ⟨g, gb⟩ := g
  obtain ⟨k0, rfl, g1, g2⟩ := am_ob_spec g
  have hx01 : x = 0 ∨ x = 1 := by simpa [am_bz] using gb
  exact am_vput (v := .int x) cx hS hW hd hf hfin hty (by rcases hx01 with rfl | rfl <;> rfl) (by rcases hx01 with rfl | rfl <;> rfl) g1 g2 (h' := am_si h (some k0) j x) rfl rfl (fun z hz => ⟨am_up_ne hz, rfl⟩) ((am_fs_set_i (by simp [am_ir, hty])).trans (by rw [show (am_si h (some k0) j x).2.2.1 k0 = _ from am_up_eq]; rfl)) (fun H1 locs1 hS1 hW1 => k (am_si h (some k0) j x) a h2 e9 p l en R s m args below meth c b kd ka D cA cx H1 locs1 cells slots mc ms ls q1 q2 q3 q4 hS1 hW1 hl)
theorem am_putR {i ci j : Nat} {r : Option Nat} {x : Option Nat} {kr : am_H → Option (α × am_H)} (hd : am_at mt.2.1 pc (.putfield i) 3 pc') (hf : am_fk mt.1.cls i ci j) (hfin : am_fin mt.1.cls mt.1.name ci j) (hty : am_ir ci j = true) (k : ∀ h', am_Sm xs cv mt d rc rs pc' L st h' (kr h')) : am_Sm xs cv mt d rc rs pc L (am_R x :: am_R r :: st) h (am_gd (am_ob h r ci) (am_lt (am_sr h r j x) kr)) := by
  obtain ⟨hd, rfl⟩ := hd
  intro a h2 e p l en R s m args below meth c b kd ka D cA cx H locs cells slots mc ms ls q1 q2 q3 q4 hS hW hl
  obtain ⟨g, e9⟩ := am_gd_inv e; clear e

  obtain ⟨k0, rfl, g1, g2⟩ := am_ob_spec g
  have hnf : narrow (am_tf ci j) (va_rf (x.map (fun k => b + k))) = va_rf (x.map (fun k => b + k)) := by cases x <;> cases ht : am_tf ci j <;> rfl
  have hft : fits (am_tf ci j) (va_rf (x.map (fun k => b + k))) = true := by
    cases ht : am_tf ci j with
    | object n => cases x <;> rfl
    | array t => cases x <;> rfl
    | _ => simp [am_ir, ht] at hty
  exact am_vput (v := va_rf (x.map (fun k => b + k))) cx hS hW hd hf hfin rfl hnf hft g1 g2 (h' := am_sr h (some k0) j x) rfl rfl (fun z hz => ⟨rfl, am_up_ne hz⟩) ((am_fs_set_r hty).trans (by rw [show (am_sr h (some k0) j x).2.2.2 k0 = _ from am_up_eq]; rfl)) (fun H1 locs1 hS1 hW1 => k (am_sr h (some k0) j x) a h2 e9 p l en R s m args below meth c b kd ka D cA cx H1 locs1 cells slots mc ms ls q1 q2 q3 q4 hS1 hW1 hl)
end AM6
