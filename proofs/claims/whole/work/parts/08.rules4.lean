/-! ===== the rules: returns and calls ===== -/
def am_ci : Int32 → Option am_V := fun x => some (am_I x)
def am_cu : Unit → Option am_V := fun _ => none
def am_ck : Nat → Option am_V := fun c => some (am_K c)
def am_cr : Option Nat → Option am_V := fun r => some (am_R r)
theorem am_bool {x : Int32} (g : am_bz x = true) : narrow .boolean (.int x) = .int x := by
  have hx01 : x = 0 ∨ x = 1 := by simpa [am_bz] using g
  rcases hx01 with rfl | rfl <;> rfl
theorem am_byte {x : Int32} (g : am_bz x = true) : narrow .byte (.int x) = .int x := by
  have hx01 : x = 0 ∨ x = 1 := by simpa [am_bz] using g
  rcases hx01 with rfl | rfl <;> rfl
section AM8
variable {α : Type} {xs : List Int32} {cv : α → Option am_V} {mt : am_M} {d rc rs rc' rs' pc pc' : Nat} {L L' : List (Option am_V)} {st : List am_V} {h : am_H} {res : Option (α × am_H)}
theorem am_iret {x : Int32} {a : α} (hd : am_at mt.2.1 pc .ireturn 1 pc') (hrt : mt.2.2.2 = some .int) (hcv : cv a = some (am_I x)) : am_Sm xs cv mt d rc rs pc L [am_I x] h (some (a, h)) := by
  obtain ⟨hd, rfl⟩ := hd
  intro a2 h2 e p l en R s m args below meth c b kd ka D cA cx H locs cells slots mc ms ls q1 q2 q3 q4 hS hW hl
  obtain ⟨hx, hb, hml, hown, hts, hr, hlk, hnm, hfr, hlo, hCo, hK⟩ := id cx
  cases e
  exact W.widen (k := mc) (n := ms) (by omega) (by omega) (W.iret hx hb (hr.trans hrt) (fun t ht hwm => ⟨⟨some (am_I x), h, rfl, ⟨hcv.symm, rfl⟩, by rw [ht]; exact hW⟩, hS.F ht⟩) hS.2.2 hd hlk)
theorem am_zret {x : Int32} {a : α} (hd : am_at mt.2.1 pc .ireturn 1 pc') (hrt : mt.2.2.2 = some .boolean) (hcv : cv a = some (am_I x)) : am_Sm xs cv mt d rc rs pc L [am_I x] h (am_gd (am_bz x) (some (a, h))) := by
  obtain ⟨hd, rfl⟩ := hd
  intro a2 h2 e p l en R s m args below meth c b kd ka D cA cx H locs cells slots mc ms ls q1 q2 q3 q4 hS hW hl
  obtain ⟨hx, hb, hml, hown, hts, hr, hlk, hnm, hfr, hlo, hCo, hK⟩ := id cx
  obtain ⟨g, e9⟩ := am_gd_inv e; clear e
  cases e9
  exact W.widen (k := mc) (n := ms) (by omega) (by omega) (W.zret (ty := .boolean) hx hb (hr.trans hrt) (am_bool g) (fun t ht hwm => ⟨⟨some (am_I x), h, rfl, ⟨hcv.symm, rfl⟩, by rw [ht]; exact hW⟩, hS.F ht⟩) hS.2.2 hd hlk)
theorem am_cret {x : Int32} {a : α} (hd : am_at mt.2.1 pc .ireturn 1 pc') (hrt : mt.2.2.2 = some .char) (hcv : cv a = some (am_I x)) : am_Sm xs cv mt d rc rs pc L [am_I x] h (am_gd (am_cz x) (some (a, h))) := by
  obtain ⟨hd, rfl⟩ := hd
  intro a2 h2 e p l en R s m args below meth c b kd ka D cA cx H locs cells slots mc ms ls q1 q2 q3 q4 hS hW hl
  obtain ⟨hx, hb, hml, hown, hts, hr, hlk, hnm, hfr, hlo, hCo, hK⟩ := id cx
  obtain ⟨g, e9⟩ := am_gd_inv e; clear e
  cases e9
  exact W.widen (k := mc) (n := ms) (by omega) (by omega) (W.zret (ty := .char) hx hb (hr.trans hrt) (am_char g) (fun t ht hwm => ⟨⟨some (am_I x), h, rfl, ⟨hcv.symm, rfl⟩, by rw [ht]; exact hW⟩, hS.F ht⟩) hS.2.2 hd hlk)
theorem am_yret {x : Int32} {a : α} (hd : am_at mt.2.1 pc .ireturn 1 pc') (hrt : mt.2.2.2 = some .byte) (hcv : cv a = some (am_I x)) : am_Sm xs cv mt d rc rs pc L [am_I x] h (am_gd (am_bz x) (some (a, h))) := by
  obtain ⟨hd, rfl⟩ := hd
  intro a2 h2 e p l en R s m args below meth c b kd ka D cA cx H locs cells slots mc ms ls q1 q2 q3 q4 hS hW hl
  obtain ⟨hx, hb, hml, hown, hts, hr, hlk, hnm, hfr, hlo, hCo, hK⟩ := id cx
  obtain ⟨g, e9⟩ := am_gd_inv e; clear e
  cases e9
  exact W.widen (k := mc) (n := ms) (by omega) (by omega) (W.zret (ty := .byte) hx hb (hr.trans hrt) (am_byte g) (fun t ht hwm => ⟨⟨some (am_I x), h, rfl, ⟨hcv.symm, rfl⟩, by rw [ht]; exact hW⟩, hS.F ht⟩) hS.2.2 hd hlk)
theorem am_vret {a : α} (hd : am_at mt.2.1 pc .return_ 1 pc') (hrt : mt.2.2.2 = none) (hcv : cv a = none) : am_Sm xs cv mt d rc rs pc L [] h (some (a, h)) := by
  obtain ⟨hd, rfl⟩ := hd
  intro a2 h2 e p l en R s m args below meth c b kd ka D cA cx H locs cells slots mc ms ls q1 q2 q3 q4 hS hW hl
  obtain ⟨hx, hb, hml, hown, hts, hr, hlk, hnm, hfr, hlo, hCo, hK⟩ := id cx
  cases e
  exact W.widen (k := mc) (n := ms) (by omega) (by omega) (W.vret hx hb (hr.trans hrt) (fun t ht hwm => ⟨⟨none, h, rfl, ⟨hcv.symm, rfl⟩, by rw [ht]; exact hW⟩, hS.F ht⟩) hS.2.2 hd hlk)
theorem am_kret {cc : Nat} {a : α} (hd : am_at mt.2.1 pc .areturn 1 pc') (hrt : ∃ n, mt.2.2.2 = some (.object n)) (hcv : cv a = some (am_K cc)) : am_Sm xs cv mt d rc rs pc L [am_K cc] h (some (a, h)) := by
  obtain ⟨hd, rfl⟩ := hd
  intro a2 h2 e p l en R s m args below meth c b kd ka D cA cx H locs cells slots mc ms ls q1 q2 q3 q4 hS hW hl
  obtain ⟨hx, hb, hml, hown, hts, hr, hlk, hnm, hfr, hlo, hCo, hK⟩ := id cx
  cases e
  obtain ⟨nm, hrt⟩ := hrt
  exact W.widen (k := mc) (n := ms) (by omega) (by omega) (W.aret (v := am_tv b kd (am_K cc)) hx hb (hr.trans hrt) (Or.inl ⟨_, rfl⟩) (by show va_rf (kd cc) = .null ∨ ∃ z, va_rf (kd cc) = .ref z; cases kd cc with | none => exact Or.inl rfl | some z => exact Or.inr ⟨z, rfl⟩) (fun t ht hwm => ⟨⟨some (am_K cc), h, rfl, ⟨hcv.symm, rfl⟩, by rw [ht]; exact hW⟩, hS.F ht⟩) hS.2.2 hd hlk)
theorem am_rret {r : Option Nat} {a : α} (hd : am_at mt.2.1 pc .areturn 1 pc') (hrt : ∃ n, mt.2.2.2 = some (.object n)) (hcv : cv a = some (am_R r)) : am_Sm xs cv mt d rc rs pc L [am_R r] h (some (a, h)) := by
  obtain ⟨hd, rfl⟩ := hd
  intro a2 h2 e p l en R s m args below meth c b kd ka D cA cx H locs cells slots mc ms ls q1 q2 q3 q4 hS hW hl
  obtain ⟨hx, hb, hml, hown, hts, hr, hlk, hnm, hfr, hlo, hCo, hK⟩ := id cx
  cases e
  obtain ⟨nm, hrt⟩ := hrt
  exact W.widen (k := mc) (n := ms) (by omega) (by omega) (W.aret (v := am_tv b kd (am_R r)) hx hb (hr.trans hrt) (Or.inl ⟨_, rfl⟩) (by cases r with | none => exact Or.inl rfl | some z => exact Or.inr ⟨b + z, rfl⟩) (fun t ht hwm => ⟨⟨some (am_R r), h, rfl, ⟨hcv.symm, rfl⟩, by rw [ht]; exact hW⟩, hS.F ht⟩) hS.2.2 hd hlk)
theorem am_objInit {i : Nat} {r : Option Nat} (hd : am_at mt.2.1 pc (.invokespecial i) 3 pc') (hw1 : Cond.methodLink mt.1.cls i objectInit ∈ am_gw) (hw2 : Cond.instanceMethod objectInit ∈ am_gw) (hw3 : Cond.code objectInit ⟨#[0xb1]⟩ 1 none ∈ am_gw) (hd1 : 1 ≤ d) (hst : st.length ≤ 8) (k : am_Sm xs cv mt d rc rs pc' L st h res) : am_Sm xs cv mt d rc rs pc L (am_R r :: st) h (am_gd r.isSome res) := by
  obtain ⟨hd, rfl⟩ := hd
  intro a h2 e p l en R s m args below meth c b kd ka D cA cx H locs cells slots mc ms ls q1 q2 q3 q4 hS hW hl
  obtain ⟨hx, hb, hml, hown, hts, hr, hlk, hnm, hfr, hlo, hCo, hK⟩ := id cx
  obtain ⟨g, e9⟩ := am_gd_inv e; clear e
  cases r with
  | none => cases g
  | some k0 =>
    have hsum : ((st.map (am_tv b kd)).map fun v => v.category).sum = st.length := by
      clear hst k
      induction st with
      | nil => rfl
      | cons v t ih => simp only [List.map_cons, List.sum_cons, am_tv_cat, ih, List.length_cons]; omega
    exact W.objInit hx hb hown (hts _ hw1) (hts _ hw2) (hts _ hw3) rfl (by show ls.size = _; rw [hl.1, hml]) rfl hd (by omega) (by show 2 * 0 + ((st.map (am_tv b kd)).map fun v => v.category).sum + 12 ≤ _; rw [hsum]; omega) (k a h2 e9 p l en R s m args below meth c b kd ka D cA cx H locs cells slots mc ms ls q1 q2 q3 q4 hS hW hl)
/-- behind a call -/
theorem am_goon {p : Program} {l : Launch} {e : Env} {R : Room} {s : State} {m : MethodId} {args : Array Value} {below : List Frame} {meth : Method} {c : Code} {H : Heap} {locs : List Loc} {cells slots : Nat} {Q : State → Prop} {pc0 mc ms : Nat} {ls : Array Slot} {rest st0 : List Value} {a : Array Value} {b : Nat} {kd : Nat → Option Nat} {D : va_G} {cA : Nat → ClassId} {Qj : Option am_V → am_H → Prop}
    (hr : va_Run p l e R s m args below meth c H locs cells slots mc ms (F0 m pc0 ls st0) rest (am_Qc b kd D cA Qj a) (am_A b)) (hS : va_S (am_A b) s.heap H locs)
    (kk : ∀ (v : Option am_V) (h' : am_H) (H1 : Heap) (locs1 : List Loc), Qj v h' → am_W D cA b h' H1 → va_S (am_A b) s.heap H1 locs1 → W p l e R s m args below meth c H1 locs1 (cells + mc) (slots + ms) Q (F0 m (pc0 + 3) ls ((v.map (am_tv b kd)).toList ++ rest))) : W p l e R s m args below meth c H locs cells slots Q (F0 m pc0 ls st0) := by
  intro T hT X
  obtain ⟨v, st₀, t, T', L, h0, X', hL, e1, e2, ⟨⟨v', h', hv, hq, hw⟩, hz, hk⟩, stp⟩ := hr T hT X
  cases hv
  rw [h0] at hz hk
  obtain ⟨t2, a1, b1⟩ := kk v' h' T'.heap (locs ++ L) hq (by rw [e1]; exact hw) ⟨Nat.le_trans hS.1 (by rw [e1]; exact hz), fun q h1 h2 => by rw [e1, hk q (Nat.lt_of_lt_of_le h1 hS.1) h2]; exact hS.2.1 q h1 h2, fun q hq => by
      rcases List.mem_append.mp hq with h | h
      · exact hS.2.2 q h
      · exact hL q h⟩ T' rfl X'
  exact ⟨t2, stp t2 a1, b1⟩
theorem am_blind {b : Nat} {kd : Nat → Option Nat} {ka : Nat → Nat} {D : va_G} {cA : Nat → ClassId} {vs : List Value} {h : am_H} : FrameBlind (va_Pc vs (am_Pr xs b kd ka D cA h)) := by
  intro a U g mk q
  obtain ⟨q1, q2, q3, q4⟩ := q
  exact ⟨q1, am_Co.same q2 rfl rfl, va_K.moved (u := U) (U := U.calling g mk a) (Vm.Alike.refl U.vm) q3, q4⟩
theorem am_start {p : Program} {R : Room} {s : State} {m : MethodId} {args : Array Value} {meth : Method} {c : Code} {H : Heap} {locs : List Loc} {b : Nat} {kd : Nat → Option Nat} {ka : Nat → Nat} {D : va_G} {cA : Nat → ClassId} {vs : List Value} {h : am_H} (cx : am_Cx xs mt d p R s m args meth c b kd ka D cA) (hS : va_S (am_A b) s.heap H locs) (hW : am_W D cA b h H) : ∀ U : State, U.heap = H → s.WarmedH U.vm → va_Pc vs (am_Pr xs b kd ka D cA h) vs.toArray U := by
  obtain ⟨hx, hb, hml, hown, hts, hr, hlk, hnm, hfr, hlo, hCo, hK⟩ := id cx
  intro U hU hwm
  refine ⟨rfl, hCo.to hwm (by rw [hU]; exact Nat.le_trans hCo.1 hS.1) (fun a h1 h2 => by rw [hU]; exact hS.2.1 a h1 h2), va_K.moved hwm.alike hK, by rw [hU]; exact hW⟩
theorem am_cats (b : Nat) (kd : Nat → Option Nat) (rest : List am_V) : ((rest.map (am_tv b kd)).map fun v => v.category).sum = rest.length := by
  induction rest with
  | nil => rfl
  | cons v t ih => simp only [List.map_cons, List.sum_cons, am_tv_cat, ih, List.length_cons]; omega
def am_LS (own : String) (i : Nat) (mtj : am_M) : Prop := (Cond.methodLink own i mtj.1 ∈ am_gw ∨ ∃ n, n < 8 ∧ am_nM n = (own, i, mtj.1)) ∧ Cond.static mtj.1 ∈ am_gw
def am_LV (own : String) (i : Nat) (mtj : am_M) : Prop := Cond.methodLink own i mtj.1 ∈ am_gw ∧ Cond.instanceMethod mtj.1 ∈ am_gw ∧ Cond.selects mtj.1.cls mtj.1 mtj.1 ∈ am_gw
def am_LI (own : String) (i : Nat) (mtj : am_M) : Prop := (Cond.methodLink own i mtj.1 ∈ am_gw ∨ ∃ n, n < 8 ∧ am_nM n = (own, i, mtj.1)) ∧ Cond.instanceMethod mtj.1 ∈ am_gw ∧ mtj.1.name = "<init>" ∧ mtj.2.2.2 = none
theorem am_callS {β : Type} {cvj : β → Option am_V} {mtj : am_M} {dj nj rcj rsj i : Nat} {fj : Option (β × am_H)} {kr : β → am_H → Option (α × am_H)} {st' : β → List am_V}  (vs rest : List am_V) (hd : am_at mt.2.1 pc (.invokestatic i) 3 pc') (ok : am_Ok mtj nj) (hlnk : am_LS mt.1.cls i mtj) (hct : ∀ a h', fj = some (a, h') → am_Ct xs mtj dj rcj rsj (vs) h (fun v h3 => v = cvj a ∧ h3 = h')) (hst : st = vs.reverse ++ rest) (hst' : ∀ a, (cvj a).toList ++ rest = st' a) (hdj : dj < d) (hn : vs.length = nj) (hrl : rest.length ≤ 8) (h1 : rc' + rcj ≤ rc) (h2 : rs' + rsj ≤ rs) (k : ∀ a h', am_Sm xs cv mt d rc' rs' pc' L (st' a) h' (kr a h')) : am_Sm xs cv mt d rc rs pc L st h (am_bd fj kr) := by
  obtain ⟨hd, rfl⟩ := hd
  intro a hz e p l en R s m args below meth c b kd ka D cA cx H locs cells slots mc ms ls q1 q2 q3 q4 hS hW hl
  obtain ⟨hx, hb, hml, hown, hts, hr, hlk, hnm, hfr, hlo, hCo, hK⟩ := id cx
  obtain ⟨aj, hj, ej, ek⟩ := am_bd_inv e
  have hM := hct aj hj ej l b kd ka D cA
  have hR : dj + 1 ≤ R.frames ∧ 8 + (mtj.2.2.1 + 11) + 32 * dj ≤ R.locals := ⟨by omega, by have := ok.2.2.2.2; omega⟩
  have hrm : 2 * 0 + ((rest.map (am_tv b kd)).map fun v => v.category).sum ≤ 8 := by rw [am_cats]; omega
  subst hst
  have fin : ∀ (v : Option am_V) (h' : am_H) (H1 : Heap) (locs1 : List Loc), (v = cvj aj ∧ h' = hj) → am_W D cA b h' H1 → va_S (am_A b) s.heap H1 locs1 → W p l en R s m args below meth c H1 locs1 (cells + rcj) (slots + rsj) (MQ below (am_Qc b kd D cA fun v h3 => v = cv a ∧ h3 = hz) args s mc ms (am_A b)) (F0 m (pc + 3) ls ((v.map (am_tv b kd)).toList ++ rest.map (am_tv b kd))) := by
    rintro v h' H1 locs1 ⟨rfl, rfl⟩ hW1 hS1
    have := k aj h' a hz ek p l en R s m args below meth c b kd ka D cA cx H1 locs1 (cells + rcj) (slots + rsj) mc ms ls (by omega) (by omega) q3 q4 hS1 hW1 hl
    rw [← hst' aj, List.map_append] at this
    have e2 : List.map (am_tv b kd) (cvj aj).toList = ((cvj aj).map (am_tv b kd)).toList := by cases cvj aj <;> rfl
    rw [e2] at this
    exact this
  obtain ⟨hl1, hl2⟩ := hlnk
  have hstk : (vs.reverse ++ rest).map (am_tv b kd) = (vs.map (am_tv b kd)).reverse ++ rest.map (am_tv b kd) := by simp
  rcases hl1 with hl1 | ⟨n, hn7, hnM⟩
  · exact am_goon (va_runS (As := vs.map (am_tv b kd)) (rest := rest.map (am_tv b kd)) (n := nj) ⟨hx, hb, hml, hown, hts⟩ hM ⟨callB_of nj hts (am_ws_good ok) rfl rfl rfl (hts _ ok.2.1) (hts _ hl1) ok.2.2.2.1 hR, hts _ hl2⟩ ⟨am_blind, am_start cx hS hW⟩ rfl (by rw [List.length_map]; exact hn) hl.1 hstk hrm hd ⟨by omega, by omega⟩) hS fin
  · have hnw := hCo.2.1 n hn7
    rw [hnM] at hnw
    exact am_goon (va_runSN (As := vs.map (am_tv b kd)) (rest := rest.map (am_tv b kd)) (n := nj) ⟨hx, hb, hml, hown, hts⟩ hM ⟨va_cnB nj hts (am_ws_good ok) rfl rfl rfl hnw (hts _ ok.2.1) ok.2.2.2.1 hR, hts _ hl2, trivial⟩ ⟨am_blind, am_start cx hS hW⟩ rfl (by rw [List.length_map]; exact hn) hl.1 hstk hrm hd ⟨by omega, by omega⟩) hS fin
theorem am_callV {β : Type} {cvj : β → Option am_V} {mtj : am_M} {dj nj rcj rsj i : Nat} {fj : Option (β × am_H)} {kr : β → am_H → Option (α × am_H)} {st' : β → List am_V} {r : Option Nat} {ci : Nat} (hci : ∃ q : vw_C, am_cl[ci]? = some q ∧ q.1 = mtj.1.cls) (vs rest : List am_V) (hd : am_at mt.2.1 pc (.invokevirtual i) 3 pc') (ok : am_Ok mtj nj) (hlnk : am_LV mt.1.cls i mtj) (hct : ∀ a h', fj = some (a, h') → am_Ct xs mtj dj rcj rsj (am_R r :: vs) h (fun v h3 => v = cvj a ∧ h3 = h')) (hst : st = vs.reverse ++ am_R r :: rest) (hst' : ∀ a, (cvj a).toList ++ rest = st' a) (hdj : dj < d) (hn : vs.length = nj) (hrl : rest.length ≤ 8) (h1 : rc' + rcj ≤ rc) (h2 : rs' + rsj ≤ rs) (k : ∀ a h', am_Sm xs cv mt d rc' rs' pc' L (st' a) h' (kr a h')) : am_Sm xs cv mt d rc rs pc L st h (am_gd (am_ob h r ci) (am_bd fj kr)) := by
  obtain ⟨hd, rfl⟩ := hd
  intro a hz e p l en R s m args below meth c b kd ka D cA cx H locs cells slots mc ms ls q1 q2 q3 q4 hS hW hl
  obtain ⟨hx, hb, hml, hown, hts, hr, hlk, hnm, hfr, hlo, hCo, hK⟩ := id cx
  obtain ⟨g, e9⟩ := am_gd_inv e; clear e
  have e := e9; clear e9
  obtain ⟨k0, rfl, g1, g2⟩ := am_ob_spec g
  obtain ⟨q, hq, hqn⟩ := hci
  have hrecv := va_recv hK hW.1 hq (q0 := k0) (by rw [am_wl_get g1, g2]; rfl)
  rw [hqn] at hrecv
  obtain ⟨aj, hj, ej, ek⟩ := am_bd_inv e
  have hM := hct aj hj ej l b kd ka D cA
  have hR : dj + 1 ≤ R.frames ∧ 8 + (mtj.2.2.1 + 11) + 32 * dj ≤ R.locals := ⟨by omega, by have := ok.2.2.2.2; omega⟩
  have hrm : 2 * 0 + ((rest.map (am_tv b kd)).map fun v => v.category).sum ≤ 8 := by rw [am_cats]; omega
  subst hst
  have fin : ∀ (v : Option am_V) (h' : am_H) (H1 : Heap) (locs1 : List Loc), (v = cvj aj ∧ h' = hj) → am_W D cA b h' H1 → va_S (am_A b) s.heap H1 locs1 → W p l en R s m args below meth c H1 locs1 (cells + rcj) (slots + rsj) (MQ below (am_Qc b kd D cA fun v h3 => v = cv a ∧ h3 = hz) args s mc ms (am_A b)) (F0 m (pc + 3) ls ((v.map (am_tv b kd)).toList ++ rest.map (am_tv b kd))) := by
    rintro v h' H1 locs1 ⟨rfl, rfl⟩ hW1 hS1
    have := k aj h' a hz ek p l en R s m args below meth c b kd ka D cA cx H1 locs1 (cells + rcj) (slots + rsj) mc ms ls (by omega) (by omega) q3 q4 hS1 hW1 hl
    rw [← hst' aj, List.map_append] at this
    have e2 : List.map (am_tv b kd) (cvj aj).toList = ((cvj aj).map (am_tv b kd)).toList := by cases cvj aj <;> rfl
    rw [e2] at this
    exact this
  obtain ⟨hl1, hl2, hl3⟩ := hlnk
  have hstk : (vs.reverse ++ am_R (some k0) :: rest).map (am_tv b kd) = (vs.map (am_tv b kd)).reverse ++ .ref (b + k0) :: rest.map (am_tv b kd) := by simp [am_tv, va_rf]
  exact am_goon (va_runV (C := mtj.1.cls) (b := b + k0) (As := vs.map (am_tv b kd)) (rest := rest.map (am_tv b kd)) (n := nj) ⟨hx, hb, hml, hown, hts⟩ hM ⟨callB_of nj hts (am_ws_good ok) rfl rfl rfl (hts _ ok.2.1) (hts _ hl1) ok.2.2.2.1 hR, hts _ hl2, hts _ hl3⟩ ⟨am_blind, hrecv, am_start cx hS hW⟩ rfl (by rw [List.length_map]; exact hn) hl.1 hstk hrm hd ⟨by omega, by omega⟩) hS fin
theorem am_callK {β : Type} {cvj : β → Option am_V} {mtj : am_M} {dj nj rcj rsj i : Nat} {fj : Option (β × am_H)} {kr : β → am_H → Option (α × am_H)} {st' : β → List am_V} {cc : Nat} (hc1 : 2 ≤ cc) (hc2 : cc < 8) (hcn : mtj.1.cls = "java/lang/String") (vs rest : List am_V) (hd : am_at mt.2.1 pc (.invokevirtual i) 3 pc') (ok : am_Ok mtj nj) (hlnk : am_LV mt.1.cls i mtj) (hct : ∀ a h', fj = some (a, h') → am_Ct xs mtj dj rcj rsj (am_K cc :: vs) h (fun v h3 => v = cvj a ∧ h3 = h')) (hst : st = vs.reverse ++ am_K cc :: rest) (hst' : ∀ a, (cvj a).toList ++ rest = st' a) (hdj : dj < d) (hn : vs.length = nj) (hrl : rest.length ≤ 8) (h1 : rc' + rcj ≤ rc) (h2 : rs' + rsj ≤ rs) (k : ∀ a h', am_Sm xs cv mt d rc' rs' pc' L (st' a) h' (kr a h')) : am_Sm xs cv mt d rc rs pc L st h (am_bd fj kr) := by
  obtain ⟨hd, rfl⟩ := hd
  intro a hz e p l en R s m args below meth c b kd ka D cA cx H locs cells slots mc ms ls q1 q2 q3 q4 hS hW hl
  obtain ⟨hx, hb, hml, hown, hts, hr, hlk, hnm, hfr, hlo, hCo, hK⟩ := id cx
  have hkd : kd cc = some (ka cc) := hCo.2.2.2.2.1 cc (by omega)
  have hrecv := vk_recv (i := cc - 2) hCo.2.2.2.2.2.2.2.2 (by omega) hS
  rw [show 2 + (cc - 2) = cc by omega, ← hcn] at hrecv
  obtain ⟨aj, hj, ej, ek⟩ := am_bd_inv e
  have hM := hct aj hj ej l b kd ka D cA
  have hR : dj + 1 ≤ R.frames ∧ 8 + (mtj.2.2.1 + 11) + 32 * dj ≤ R.locals := ⟨by omega, by have := ok.2.2.2.2; omega⟩
  have hrm : 2 * 0 + ((rest.map (am_tv b kd)).map fun v => v.category).sum ≤ 8 := by rw [am_cats]; omega
  subst hst
  have fin : ∀ (v : Option am_V) (h' : am_H) (H1 : Heap) (locs1 : List Loc), (v = cvj aj ∧ h' = hj) → am_W D cA b h' H1 → va_S (am_A b) s.heap H1 locs1 → W p l en R s m args below meth c H1 locs1 (cells + rcj) (slots + rsj) (MQ below (am_Qc b kd D cA fun v h3 => v = cv a ∧ h3 = hz) args s mc ms (am_A b)) (F0 m (pc + 3) ls ((v.map (am_tv b kd)).toList ++ rest.map (am_tv b kd))) := by
    rintro v h' H1 locs1 ⟨rfl, rfl⟩ hW1 hS1
    have := k aj h' a hz ek p l en R s m args below meth c b kd ka D cA cx H1 locs1 (cells + rcj) (slots + rsj) mc ms ls (by omega) (by omega) q3 q4 hS1 hW1 hl
    rw [← hst' aj, List.map_append] at this
    have e2 : List.map (am_tv b kd) (cvj aj).toList = ((cvj aj).map (am_tv b kd)).toList := by cases cvj aj <;> rfl
    rw [e2] at this
    exact this
  obtain ⟨hl1, hl2, hl3⟩ := hlnk
  have hstk : (vs.reverse ++ am_K cc :: rest).map (am_tv b kd) = (vs.map (am_tv b kd)).reverse ++ .ref (ka cc) :: rest.map (am_tv b kd) := by simp [am_tv, va_rf, hkd]
  have hvs : (am_K cc :: vs).map (am_tv b kd) = .ref (ka cc) :: vs.map (am_tv b kd) := by simp [am_tv, va_rf, hkd]
  rw [hvs] at hM
  exact am_goon (va_runV (C := mtj.1.cls) (b := ka cc) (As := vs.map (am_tv b kd)) (rest := rest.map (am_tv b kd)) (n := nj) ⟨hx, hb, hml, hown, hts⟩ hM ⟨callB_of nj hts (am_ws_good ok) rfl rfl rfl (hts _ ok.2.1) (hts _ hl1) ok.2.2.2.1 hR, hts _ hl2, hts _ hl3⟩ ⟨am_blind, hrecv, am_start cx hS hW⟩ rfl (by rw [List.length_map]; exact hn) hl.1 hstk hrm hd ⟨by omega, by omega⟩) hS fin
theorem am_callI {β : Type} {cvj : β → Option am_V} {mtj : am_M} {dj nj rcj rsj i : Nat} {fj : Option (β × am_H)} {kr : β → am_H → Option (α × am_H)} {st' : β → List am_V} {r : Option Nat} (vs rest : List am_V) (hd : am_at mt.2.1 pc (.invokespecial i) 3 pc') (ok : am_Ok mtj nj) (hlnk : am_LI mt.1.cls i mtj) (hct : ∀ a h', fj = some (a, h') → am_Ct xs mtj dj rcj rsj (am_R r :: vs) h (fun v h3 => v = cvj a ∧ h3 = h')) (hst : st = vs.reverse ++ am_R r :: rest) (hst' : ∀ a, (cvj a).toList ++ rest = st' a) (hdj : dj < d) (hn : vs.length = nj) (hrl : rest.length ≤ 8) (h1 : rc' + rcj ≤ rc) (h2 : rs' + rsj ≤ rs) (k : ∀ a h', am_Sm xs cv mt d rc' rs' pc' L (st' a) h' (kr a h')) : am_Sm xs cv mt d rc rs pc L st h (am_gd r.isSome (am_bd fj kr)) := by
  obtain ⟨hd, rfl⟩ := hd
  intro a hz e p l en R s m args below meth c b kd ka D cA cx H locs cells slots mc ms ls q1 q2 q3 q4 hS hW hl
  obtain ⟨hx, hb, hml, hown, hts, hr, hlk, hnm, hfr, hlo, hCo, hK⟩ := id cx
  obtain ⟨g, e9⟩ := am_gd_inv e; clear e
  have e := e9; clear e9
  obtain ⟨k0, rfl⟩ := Option.isSome_iff_exists.mp g
  obtain ⟨aj, hj, ej, ek⟩ := am_bd_inv e
  have hM := hct aj hj ej l b kd ka D cA
  have hR : dj + 1 ≤ R.frames ∧ 8 + (mtj.2.2.1 + 11) + 32 * dj ≤ R.locals := ⟨by omega, by have := ok.2.2.2.2; omega⟩
  have hrm : 2 * 0 + ((rest.map (am_tv b kd)).map fun v => v.category).sum ≤ 8 := by rw [am_cats]; omega
  subst hst
  have fin : ∀ (v : Option am_V) (h' : am_H) (H1 : Heap) (locs1 : List Loc), (v = cvj aj ∧ h' = hj) → am_W D cA b h' H1 → va_S (am_A b) s.heap H1 locs1 → W p l en R s m args below meth c H1 locs1 (cells + rcj) (slots + rsj) (MQ below (am_Qc b kd D cA fun v h3 => v = cv a ∧ h3 = hz) args s mc ms (am_A b)) (F0 m (pc + 3) ls ((v.map (am_tv b kd)).toList ++ rest.map (am_tv b kd))) := by
    rintro v h' H1 locs1 ⟨rfl, rfl⟩ hW1 hS1
    have := k aj h' a hz ek p l en R s m args below meth c b kd ka D cA cx H1 locs1 (cells + rcj) (slots + rsj) mc ms ls (by omega) (by omega) q3 q4 hS1 hW1 hl
    rw [← hst' aj, List.map_append] at this
    have e2 : List.map (am_tv b kd) (cvj aj).toList = ((cvj aj).map (am_tv b kd)).toList := by cases cvj aj <;> rfl
    rw [e2] at this
    exact this
  obtain ⟨hl1, hl2, hl3, hl4⟩ := hlnk
  have hstk : (vs.reverse ++ am_R (some k0) :: rest).map (am_tv b kd) = (vs.map (am_tv b kd)).reverse ++ .ref (b + k0) :: rest.map (am_tv b kd) := by simp [am_tv, va_rf]
  have hws : am_ws mtj = Cond.code mtj.1 mtj.2.1 mtj.2.2.1 none :: am_gw := by unfold am_ws; rw [hl4]
  rcases hl1 with hl1 | ⟨n, hn7, hnM⟩
  · exact am_goon (va_runI (b := b + k0) (As := vs.map (am_tv b kd)) (rest := rest.map (am_tv b kd)) (n := nj) ⟨hx, hb, hml, hown, hts⟩ hM ⟨callB_of nj hts (am_ws_good ok) hws rfl rfl (hts _ ok.2.1) (hts _ hl1) ok.2.2.2.1 hR, hl3, hts _ hl2⟩ ⟨am_blind, am_start cx hS hW⟩ rfl (by rw [List.length_map]; exact hn) hl.1 hstk hrm hd ⟨by omega, by omega⟩) hS fin
  · have hnw := hCo.2.1 n hn7
    rw [hnM] at hnw
    exact am_goon (va_runIN (b := b + k0) (As := vs.map (am_tv b kd)) (rest := rest.map (am_tv b kd)) (n := nj) ⟨hx, hb, hml, hown, hts⟩ hM ⟨va_cnB nj hts (am_ws_good ok) hws rfl rfl hnw (hts _ ok.2.1) ok.2.2.2.1 hR, hl3, hts _ hl2⟩ ⟨am_blind, am_start cx hS hW⟩ rfl (by rw [List.length_map]; exact hn) hl.1 hstk hrm hd ⟨by omega, by omega⟩) hS fin
/-- fewer locals known, less room needed -/
def am_le : List (Option am_V) → List (Option am_V) → Prop
  | [], _ => True
  | none :: l, _ :: k => am_le l k
  | some v :: l, some w :: k => w = v ∧ am_le l k
  | _, _ => False
theorem am_le_get : ∀ (l k : List (Option am_V)), am_le l k → ∀ (i : Nat) (v : am_V), l[i]? = some (some v) → k[i]? = some (some v) := by
  intro l
  induction l with
  | nil => intro k _ i v h; simp at h
  | cons o l ih =>
    intro k hk i v h
    cases k with
    | nil => cases o <;> exact hk.elim
    | cons q k =>
      cases o with
      | none =>
        cases i with
        | zero => simp at h
        | succ i => simpa using ih k hk i v (by simpa using h)
      | some w =>
        cases q with
        | none => exact hk.elim
        | some u =>
          cases i with
          | zero => simp at h ⊢; rw [← h]; exact hk.1
          | succ i => simpa using ih k hk.2 i v (by simpa using h)
theorem am_weak {L0 : List (Option am_V)} (k : am_Sm xs cv mt d rc' rs' pc L0 st h res) (hl : am_le L0 L) (h1 : rc' ≤ rc) (h2 : rs' ≤ rs) : am_Sm xs cv mt d rc rs pc L st h res := by
  intro a hz e p l en R s m args below meth c b kd ka D cA cx H locs cells slots mc ms ls q1 q2 q3 q4 hS hW hll
  exact k a hz e p l en R s m args below meth c b kd ka D cA cx H locs cells slots mc ms ls (by omega) (by omega) q3 q4 hS hW ⟨hll.1, hll.2.1, fun i v hi => hll.2.2 i v (am_le_get _ _ hl i v hi)⟩
theorem am_rcw (k : am_Sm xs cv mt d rc' rs' pc L st h res) (h1 : rc' ≤ rc) (h2 : rs' ≤ rs) : am_Sm xs cv mt d rc rs pc L st h res := by
  intro a hz e p l en R s m args below meth c b kd ka D cA cx H locs cells slots mc ms ls q1 q2 q3 q4 hS hW hll
  exact k a hz e p l en R s m args below meth c b kd ka D cA cx H locs cells slots mc ms ls (by omega) (by omega) q3 q4 hS hW hll
def am_ks (c : Nat) : Bool := decide (2 ≤ c) && decide (c < 8)
theorem am_kguard {cc : Nat} (k : 2 ≤ cc ∧ cc < 8 → am_Sm xs cv mt d rc rs pc L st h res) : am_Sm xs cv mt d rc rs pc L st h (am_gd (am_ks cc) res) := by
  intro a hz e
  obtain ⟨g, e9⟩ := am_gd_inv e
  exact k (by simpa [am_ks] using g) a hz e9
def am_F : Nat := 4000
def am_G : Nat := 20
/-- a method's own row: what its function gives, its run gives -/
theorem am_meth {mt : am_M} {n : Nat} {vs : List am_V} {L0 : List (Option am_V)} {a : α} {h' : am_H} (ok : am_Ok mt n) (hlen : vs.length ≤ mt.2.2.1) (hL : vs.map some ++ List.replicate (mt.2.2.1 - vs.length) none = L0) (k : am_Sm xs cv mt d rc rs 0 L0 [] h res) (e : res = some (a, h')) : am_Ct xs mt d rc rs vs h (fun v h3 => v = cv a ∧ h3 = h') := by
  refine am_entry ok hlen ?_
  intro p l en R s m args below meth c b kd ka D cA cx H locs cells slots mc ms ls q1 q2 q3 q4 hS hW hl
  refine k a h' e p l en R s m args below meth c b kd ka D cA cx H locs cells slots mc ms ls q1 q2 q3 q4 hS hW ⟨hl.1, hl.2.1, fun j v hj => ?_⟩
  subst hL
  refine hl.2.2 j v ?_
  by_cases hjl : j < vs.length
  · rw [List.getElem?_append_left (by simpa using hjl)] at hj
    exact hj
  · rw [List.getElem?_append_right (by simpa using hjl)] at hj
    have := List.eq_of_mem_replicate (List.mem_of_getElem? hj)
    cases this
end AM8
