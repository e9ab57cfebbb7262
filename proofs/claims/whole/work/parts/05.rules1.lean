/-! ===== the rules: stack, locals, arithmetic, branches ===== -/
def am_Sm {α : Type} (xs : List Int32) (cv : α → Option am_V) (mt : am_M) (d rc rs pc : Nat) (L : List (Option am_V)) (st : List am_V) (h : am_H) (res : Option (α × am_H)) : Prop :=
  ∀ (a : α) (h2 : am_H), res = some (a, h2) → am_Rn xs mt d rc rs pc L st h (fun v h3 => v = cv a ∧ h3 = h2)
abbrev am_at (cc : ByteArray) (pc : Nat) (i : Instr) (n pc' : Nat) : Prop := decode cc pc = .ok (i, n) ∧ pc' = pc + n
def am_gd {β : Type} (g : Bool) (k : Option β) : Option β := if g = true then k else none
def am_lt {γ β : Type} (v : γ) (k : γ → β) : β := k v
def am_bd {γ β : Type} (r : Option (γ × am_H)) (k : γ → am_H → Option β) : Option β := match r with
  | none => none
  | some q => k q.1 q.2
theorem am_gd_inv {β : Type} {g : Bool} {k : Option β} {z : β} (h : am_gd g k = some z) : g = true ∧ k = some z := by
  cases g with
  | false => simp [am_gd] at h
  | true => exact ⟨rfl, by simpa [am_gd] using h⟩
theorem am_bd_inv {γ β : Type} {r : Option (γ × am_H)} {k : γ → am_H → Option β} {z : β} (h : am_bd r k = some z) : ∃ a h2, r = some (a, h2) ∧ k a h2 = some z := by
  cases r with
  | none => simp [am_bd] at h
  | some q => exact ⟨q.1, q.2, rfl, h⟩
theorem am_none {α : Type} {xs : List Int32} {cv : α → Option am_V} {mt : am_M} {d rc rs pc : Nat} {L : List (Option am_V)} {st : List am_V} {h : am_H} : am_Sm xs cv mt d rc rs pc L st h none := fun _ _ e => by cases e
theorem am_lh_load {b : Nat} {kd : Nat → Option Nat} {ls : Array Slot} {n k : Nat} {L : List (Option am_V)} {v : am_V} (hl : am_lh b kd ls n L) (hk : L[k]? = some (some v)) : ls[k]? = some (.val (am_tv b kd v)) := hl.2.2 k v hk
/-- the locals as the kit lists them -/
def am_lv (b : Nat) (kd : Nat → Option Nat) (L : List (Option am_V)) : List (Nat × Value) := (List.range L.length).filterMap (fun k => match L[k]? with | some (some v) => some (k, am_tv b kd v) | _ => none)
theorem am_lv_mem {b : Nat} {kd : Nat → Option Nat} {L : List (Option am_V)} {k : Nat} {v : am_V} (h : L[k]? = some (some v)) : (k, am_tv b kd v) ∈ am_lv b kd L := by
  refine List.mem_filterMap.mpr ⟨k, List.mem_range.mpr (List.getElem?_eq_some_iff.mp h).1, ?_⟩
  simp [h]
theorem am_lv_has {b : Nat} {kd : Nat → Option Nat} {ls : Array Slot} {n : Nat} {L : List (Option am_V)} (hl : am_lh b kd ls n L) : lv_has ls n (am_lv b kd L) := by
  refine ⟨hl.1, hl.2.1, fun q hq => ?_⟩
  obtain ⟨k, -, hk⟩ := List.mem_filterMap.mp hq
  cases hz : L[k]? with
  | none => rw [hz] at hk; cases hk
  | some o =>
    cases o with
    | none => rw [hz] at hk; cases hk
    | some v =>
      rw [hz] at hk
      cases hk
      exact hl.2.2 k v hz
theorem am_lh_set {b : Nat} {kd : Nat → Option Nat} {ls : Array Slot} {n k : Nat} {L L' : List (Option am_V)} {v : am_V} (h : lv_has ls n ((k, am_tv b kd v) :: (am_lv b kd L).filter (fun q => !(q.1 == k) && !(q.1 + 1 == k && q.2.category == 2)))) (e : L.set k (some v) = L') : am_lh b kd ls n L' := by
  refine ⟨h.1, h.2.1, fun j w hj => ?_⟩
  subst e
  rw [List.getElem?_set] at hj
  by_cases hjk : k = j
  · subst hjk
    rw [if_pos rfl] at hj
    split at hj
    · cases hj
      exact h.2.2 _ List.mem_cons_self
    · cases hj
  · rw [if_neg hjk] at hj
    refine h.2.2 (j, am_tv b kd w) (List.mem_cons_of_mem _ (List.mem_filter.mpr ⟨am_lv_mem hj, ?_⟩))
    simp [am_tv_cat]
    omega
section AM5
variable {α : Type} {xs : List Int32} {cv : α → Option am_V} {mt : am_M} {d rc rs pc pc' : Nat} {L L' : List (Option am_V)} {st : List am_V} {h : am_H} {res : Option (α × am_H)}
theorem am_iconst {n : Int} {v : Int32} (hd : am_at mt.2.1 pc (.iconst n) 1 pc') (hv : Int32.ofInt n = v) (k : am_Sm xs cv mt d rc rs pc' L (am_I v :: st) h res) : am_Sm xs cv mt d rc rs pc L st h res := by
  obtain ⟨hd, rfl⟩ := hd
  intro a h2 e p l en R s m args below meth c b kd ka D cA cx H locs cells slots mc ms ls q1 q2 q3 q4 hS hW hl
  exact lv_iconst cx.1 cx.2.1 hd hv (k a h2 e p l en R s m args below meth c b kd ka D cA cx H locs cells slots mc ms ls q1 q2 q3 q4 hS hW hl)
theorem am_bipush {n : Int} {v : Int32} (hd : am_at mt.2.1 pc (.bipush n) 2 pc') (hv : (Int8.ofInt n).toInt32 = v) (k : am_Sm xs cv mt d rc rs pc' L (am_I v :: st) h res) : am_Sm xs cv mt d rc rs pc L st h res := by
  obtain ⟨hd, rfl⟩ := hd
  intro a h2 e p l en R s m args below meth c b kd ka D cA cx H locs cells slots mc ms ls q1 q2 q3 q4 hS hW hl
  exact lv_bipush cx.1 cx.2.1 hd hv (k a h2 e p l en R s m args below meth c b kd ka D cA cx H locs cells slots mc ms ls q1 q2 q3 q4 hS hW hl)
theorem am_sipush {n : Int} {v : Int32} (hd : am_at mt.2.1 pc (.sipush n) 3 pc') (hv : (Int16.ofInt n).toInt32 = v) (k : am_Sm xs cv mt d rc rs pc' L (am_I v :: st) h res) : am_Sm xs cv mt d rc rs pc L st h res := by
  obtain ⟨hd, rfl⟩ := hd
  intro a h2 e p l en R s m args below meth c b kd ka D cA cx H locs cells slots mc ms ls q1 q2 q3 q4 hS hW hl
  exact lv_sipush cx.1 cx.2.1 hd hv (k a h2 e p l en R s m args below meth c b kd ka D cA cx H locs cells slots mc ms ls q1 q2 q3 q4 hS hW hl)
theorem am_ldc {i : Nat} {v : Int32} (hd : am_at mt.2.1 pc (.ldc i) 2 pc') (hw : Cond.constant mt.1.cls i v ∈ am_gw) (k : am_Sm xs cv mt d rc rs pc' L (am_I v :: st) h res) : am_Sm xs cv mt d rc rs pc L st h res := by
  obtain ⟨hd, rfl⟩ := hd
  intro a h2 e p l en R s m args below meth c b kd ka D cA cx H locs cells slots mc ms ls q1 q2 q3 q4 hS hW hl
  exact lv_ldc cx.1 cx.2.1 cx.2.2.2.1 (cx.2.2.2.2.1 _ hw) hd (k a h2 e p l en R s m args below meth c b kd ka D cA cx H locs cells slots mc ms ls q1 q2 q3 q4 hS hW hl)
theorem am_ldcw {i : Nat} {v : Int32} (hd : am_at mt.2.1 pc (.ldc_w i) 3 pc') (hw : Cond.constant mt.1.cls i v ∈ am_gw) (k : am_Sm xs cv mt d rc rs pc' L (am_I v :: st) h res) : am_Sm xs cv mt d rc rs pc L st h res := by
  obtain ⟨hd, rfl⟩ := hd
  intro a h2 e p l en R s m args below meth c b kd ka D cA cx H locs cells slots mc ms ls q1 q2 q3 q4 hS hW hl
  exact lv_ldcw cx.1 cx.2.1 cx.2.2.2.1 (cx.2.2.2.2.1 _ hw) hd (k a h2 e p l en R s m args below meth c b kd ka D cA cx H locs cells slots mc ms ls q1 q2 q3 q4 hS hW hl)
theorem am_iload_n {i : Fin 4} {x : Int32} (hd : am_at mt.2.1 pc (.iload_n i) 1 pc') (hL : L[(i : Nat)]? = some (some (am_I x))) (k : am_Sm xs cv mt d rc rs pc' L (am_I x :: st) h res) : am_Sm xs cv mt d rc rs pc L st h res := by
  obtain ⟨hd, rfl⟩ := hd
  intro a h2 e p l en R s m args below meth c b kd ka D cA cx H locs cells slots mc ms ls q1 q2 q3 q4 hS hW hl
  exact lv_iload_n cx.1 cx.2.1 hd rfl (am_lh_load hl hL) (k a h2 e p l en R s m args below meth c b kd ka D cA cx H locs cells slots mc ms ls q1 q2 q3 q4 hS hW hl)
theorem am_iload {i : Nat} {x : Int32} (hd : am_at mt.2.1 pc (.iload i) 2 pc') (hL : L[i]? = some (some (am_I x))) (k : am_Sm xs cv mt d rc rs pc' L (am_I x :: st) h res) : am_Sm xs cv mt d rc rs pc L st h res := by
  obtain ⟨hd, rfl⟩ := hd
  intro a h2 e p l en R s m args below meth c b kd ka D cA cx H locs cells slots mc ms ls q1 q2 q3 q4 hS hW hl
  exact lv_iload cx.1 cx.2.1 hd (am_lh_load hl hL) (k a h2 e p l en R s m args below meth c b kd ka D cA cx H locs cells slots mc ms ls q1 q2 q3 q4 hS hW hl)
theorem am_aload_n {i : Fin 4} {r : Option Nat ⊕ Nat} (hd : am_at mt.2.1 pc (.aload_n i) 1 pc') (hL : L[(i : Nat)]? = some (some (.inr r))) (k : am_Sm xs cv mt d rc rs pc' L (.inr r :: st) h res) : am_Sm xs cv mt d rc rs pc L st h res := by
  obtain ⟨hd, rfl⟩ := hd
  intro a h2 e p l en R s m args below meth c b kd ka D cA cx H locs cells slots mc ms ls q1 q2 q3 q4 hS hW hl
  have hg := am_lh_load hl hL
  have kk := (k a h2 e p l en R s m args below meth c b kd ka D cA cx H locs cells slots mc ms ls q1 q2 q3 q4 hS hW hl)
  have key : ∀ o : Option Nat, am_tv b kd (.inr r) = va_rf o → W p l en R s m args below meth c H locs cells slots (MQ below (am_Qc b kd D cA (fun v h3 => v = cv a ∧ h3 = h2)) args s mc ms (am_A b)) (F0 m pc ls (st.map (am_tv b kd))) := by
    intro o ho
    simp only [List.map_cons, ho] at kk
    rw [ho] at hg
    cases o with
    | none => exact lv_aload_nN cx.1 cx.2.1 hd rfl hg kk
    | some q => exact lv_aload_n cx.1 cx.2.1 hd rfl hg kk
  rcases r with o | q
  · exact key _ rfl
  · exact key _ rfl
theorem am_aload {i : Nat} {r : Option Nat ⊕ Nat} (hd : am_at mt.2.1 pc (.aload i) 2 pc') (hL : L[(i : Nat)]? = some (some (.inr r))) (k : am_Sm xs cv mt d rc rs pc' L (.inr r :: st) h res) : am_Sm xs cv mt d rc rs pc L st h res := by
  obtain ⟨hd, rfl⟩ := hd
  intro a h2 e p l en R s m args below meth c b kd ka D cA cx H locs cells slots mc ms ls q1 q2 q3 q4 hS hW hl
  have hg := am_lh_load hl hL
  have kk := (k a h2 e p l en R s m args below meth c b kd ka D cA cx H locs cells slots mc ms ls q1 q2 q3 q4 hS hW hl)
  have key : ∀ o : Option Nat, am_tv b kd (.inr r) = va_rf o → W p l en R s m args below meth c H locs cells slots (MQ below (am_Qc b kd D cA (fun v h3 => v = cv a ∧ h3 = h2)) args s mc ms (am_A b)) (F0 m pc ls (st.map (am_tv b kd))) := by
    intro o ho
    simp only [List.map_cons, ho] at kk
    rw [ho] at hg
    cases o with
    | none => exact lv_aloadN cx.1 cx.2.1 hd hg kk
    | some q => exact lv_aload cx.1 cx.2.1 hd hg kk
  rcases r with o | q
  · exact key _ rfl
  · exact key _ rfl
theorem am_istore_n {i : Fin 4} {x : Int32} {kr : Int32 → Option (α × am_H)} {LL : Int32 → List (Option am_V)} (hd : am_at mt.2.1 pc (.istore_n i) 1 pc') (hi : (i : Nat) < mt.2.2.1) (hL : ∀ y, L.set (i : Nat) (some (am_I y)) = LL y) (k : ∀ y, am_Sm xs cv mt d rc rs pc' (LL y) st h (kr y)) : am_Sm xs cv mt d rc rs pc L (am_I x :: st) h (am_lt x kr) := by
  obtain ⟨hd, rfl⟩ := hd
  intro a h2 e p l en R s m args below meth c b kd ka D cA cx H locs cells slots mc ms ls q1 q2 q3 q4 hS hW hl
  exact lv_istore_n cx.1 cx.2.1 hd rfl (am_lv_has hl) hi rfl (fun ls hl => k x a h2 e p l en R s m args below meth c b kd ka D cA cx H locs cells slots mc ms ls q1 q2 q3 q4 hS hW (am_lh_set hl (hL x)))
theorem am_istore {i : Nat} {x : Int32} {kr : Int32 → Option (α × am_H)} {LL : Int32 → List (Option am_V)} (hd : am_at mt.2.1 pc (.istore i) 2 pc') (hi : (i : Nat) < mt.2.2.1) (hL : ∀ y, L.set (i : Nat) (some (am_I y)) = LL y) (k : ∀ y, am_Sm xs cv mt d rc rs pc' (LL y) st h (kr y)) : am_Sm xs cv mt d rc rs pc L (am_I x :: st) h (am_lt x kr) := by
  obtain ⟨hd, rfl⟩ := hd
  intro a h2 e p l en R s m args below meth c b kd ka D cA cx H locs cells slots mc ms ls q1 q2 q3 q4 hS hW hl
  exact lv_istore cx.1 cx.2.1 hd (am_lv_has hl) hi rfl (fun ls hl => k x a h2 e p l en R s m args below meth c b kd ka D cA cx H locs cells slots mc ms ls q1 q2 q3 q4 hS hW (am_lh_set hl (hL x)))
theorem am_astore_n {i : Fin 4} {x : Option Nat} {kr : Option Nat → Option (α × am_H)} {LL : Option Nat → List (Option am_V)} (hd : am_at mt.2.1 pc (.astore_n i) 1 pc') (hi : (i : Nat) < mt.2.2.1) (hL : ∀ y, L.set (i : Nat) (some (am_R y)) = LL y) (k : ∀ y, am_Sm xs cv mt d rc rs pc' (LL y) st h (kr y)) : am_Sm xs cv mt d rc rs pc L (am_R x :: st) h (am_lt x kr) := by
  obtain ⟨hd, rfl⟩ := hd
  intro a h2 e p l en R s m args below meth c b kd ka D cA cx H locs cells slots mc ms ls q1 q2 q3 q4 hS hW hl
  cases x with
  | none => exact lv_astore_nN cx.1 cx.2.1 hd rfl (am_lv_has hl) hi rfl (fun ls hl => k none a h2 e p l en R s m args below meth c b kd ka D cA cx H locs cells slots mc ms ls q1 q2 q3 q4 hS hW (am_lh_set (v := am_R none) hl (hL none)))
  | some x => exact lv_astore_n cx.1 cx.2.1 hd rfl (am_lv_has hl) hi rfl (fun ls hl => k (some x) a h2 e p l en R s m args below meth c b kd ka D cA cx H locs cells slots mc ms ls q1 q2 q3 q4 hS hW (am_lh_set (v := am_R (some x)) hl (hL (some x))))
theorem am_astore {i : Nat} {x : Option Nat} {kr : Option Nat → Option (α × am_H)} {LL : Option Nat → List (Option am_V)} (hd : am_at mt.2.1 pc (.astore i) 2 pc') (hi : (i : Nat) < mt.2.2.1) (hL : ∀ y, L.set (i : Nat) (some (am_R y)) = LL y) (k : ∀ y, am_Sm xs cv mt d rc rs pc' (LL y) st h (kr y)) : am_Sm xs cv mt d rc rs pc L (am_R x :: st) h (am_lt x kr) := by
  obtain ⟨hd, rfl⟩ := hd
  intro a h2 e p l en R s m args below meth c b kd ka D cA cx H locs cells slots mc ms ls q1 q2 q3 q4 hS hW hl
  cases x with
  | none => exact lv_astoreN cx.1 cx.2.1 hd (am_lv_has hl) hi rfl (fun ls hl => k none a h2 e p l en R s m args below meth c b kd ka D cA cx H locs cells slots mc ms ls q1 q2 q3 q4 hS hW (am_lh_set (v := am_R none) hl (hL none)))
  | some x => exact lv_astore cx.1 cx.2.1 hd (am_lv_has hl) hi rfl (fun ls hl => k (some x) a h2 e p l en R s m args below meth c b kd ka D cA cx H locs cells slots mc ms ls q1 q2 q3 q4 hS hW (am_lh_set (v := am_R (some x)) hl (hL (some x))))
theorem am_iinc {i : Nat} {n : Int} {v x : Int32} {kr : Int32 → Option (α × am_H)} {LL : Int32 → List (Option am_V)} (hd : am_at mt.2.1 pc (.iinc i n) 3 pc') (hv : Int32.ofInt n = v) (hx : L[i]? = some (some (am_I x))) (hi : i < mt.2.2.1) (hL : ∀ y, L.set i (some (am_I y)) = LL y) (k : ∀ y, am_Sm xs cv mt d rc rs pc' (LL y) st h (kr y)) : am_Sm xs cv mt d rc rs pc L st h (am_lt (x + v) kr) := by
  obtain ⟨hd, rfl⟩ := hd
  intro a h2 e p l en R s m args below meth c b kd ka D cA cx H locs cells slots mc ms ls q1 q2 q3 q4 hS hW hl
  obtain ⟨j, hj⟩ := List.getElem?_of_mem (am_lv_mem (b := b) (kd := kd) hx)
  exact lv_iinc (k := j) (v := x + v) cx.1 cx.2.1 hd (am_lv_has hl) hj (by rw [hv]) hi rfl (fun ls hl => k (x + v) a h2 e p l en R s m args below meth c b kd ka D cA cx H locs cells slots mc ms ls q1 q2 q3 q4 hS hW (am_lh_set hl (hL _)))
theorem am_iadd {x y : Int32} (hd : am_at mt.2.1 pc .iadd 1 pc') (k : am_Sm xs cv mt d rc rs pc' L (am_I (x + y) :: st) h res) : am_Sm xs cv mt d rc rs pc L (am_I y :: am_I x :: st) h res := by
  obtain ⟨hd, rfl⟩ := hd
  intro a h2 e p l en R s m args below meth c b kd ka D cA cx H locs cells slots mc ms ls q1 q2 q3 q4 hS hW hl
  exact lv_iadd cx.1 cx.2.1 hd (k a h2 e p l en R s m args below meth c b kd ka D cA cx H locs cells slots mc ms ls q1 q2 q3 q4 hS hW hl)
theorem am_isub {x y : Int32} (hd : am_at mt.2.1 pc .isub 1 pc') (k : am_Sm xs cv mt d rc rs pc' L (am_I (x - y) :: st) h res) : am_Sm xs cv mt d rc rs pc L (am_I y :: am_I x :: st) h res := by
  obtain ⟨hd, rfl⟩ := hd
  intro a h2 e p l en R s m args below meth c b kd ka D cA cx H locs cells slots mc ms ls q1 q2 q3 q4 hS hW hl
  exact lv_isub cx.1 cx.2.1 hd (k a h2 e p l en R s m args below meth c b kd ka D cA cx H locs cells slots mc ms ls q1 q2 q3 q4 hS hW hl)
theorem am_imul {x y : Int32} (hd : am_at mt.2.1 pc .imul 1 pc') (k : am_Sm xs cv mt d rc rs pc' L (am_I (x * y) :: st) h res) : am_Sm xs cv mt d rc rs pc L (am_I y :: am_I x :: st) h res := by
  obtain ⟨hd, rfl⟩ := hd
  intro a h2 e p l en R s m args below meth c b kd ka D cA cx H locs cells slots mc ms ls q1 q2 q3 q4 hS hW hl
  exact lv_imul cx.1 cx.2.1 hd (k a h2 e p l en R s m args below meth c b kd ka D cA cx H locs cells slots mc ms ls q1 q2 q3 q4 hS hW hl)
theorem am_iand {x y : Int32} (hd : am_at mt.2.1 pc .iand 1 pc') (k : am_Sm xs cv mt d rc rs pc' L (am_I (x &&& y) :: st) h res) : am_Sm xs cv mt d rc rs pc L (am_I y :: am_I x :: st) h res := by
  obtain ⟨hd, rfl⟩ := hd
  intro a h2 e p l en R s m args below meth c b kd ka D cA cx H locs cells slots mc ms ls q1 q2 q3 q4 hS hW hl
  exact lv_iand cx.1 cx.2.1 hd (k a h2 e p l en R s m args below meth c b kd ka D cA cx H locs cells slots mc ms ls q1 q2 q3 q4 hS hW hl)
theorem am_ior {x y : Int32} (hd : am_at mt.2.1 pc .ior 1 pc') (k : am_Sm xs cv mt d rc rs pc' L (am_I (x ||| y) :: st) h res) : am_Sm xs cv mt d rc rs pc L (am_I y :: am_I x :: st) h res := by
  obtain ⟨hd, rfl⟩ := hd
  intro a h2 e p l en R s m args below meth c b kd ka D cA cx H locs cells slots mc ms ls q1 q2 q3 q4 hS hW hl
  exact lv_ior cx.1 cx.2.1 hd (k a h2 e p l en R s m args below meth c b kd ka D cA cx H locs cells slots mc ms ls q1 q2 q3 q4 hS hW hl)
theorem am_ixor {x y : Int32} (hd : am_at mt.2.1 pc .ixor 1 pc') (k : am_Sm xs cv mt d rc rs pc' L (am_I (x ^^^ y) :: st) h res) : am_Sm xs cv mt d rc rs pc L (am_I y :: am_I x :: st) h res := by
  obtain ⟨hd, rfl⟩ := hd
  intro a h2 e p l en R s m args below meth c b kd ka D cA cx H locs cells slots mc ms ls q1 q2 q3 q4 hS hW hl
  exact lv_ixor cx.1 cx.2.1 hd (k a h2 e p l en R s m args below meth c b kd ka D cA cx H locs cells slots mc ms ls q1 q2 q3 q4 hS hW hl)
theorem am_ishl {x y : Int32} (hd : am_at mt.2.1 pc .ishl 1 pc') (k : am_Sm xs cv mt d rc rs pc' L (am_I (x <<< (y &&& 31)) :: st) h res) : am_Sm xs cv mt d rc rs pc L (am_I y :: am_I x :: st) h res := by
  obtain ⟨hd, rfl⟩ := hd
  intro a h2 e p l en R s m args below meth c b kd ka D cA cx H locs cells slots mc ms ls q1 q2 q3 q4 hS hW hl
  exact lv_ishl cx.1 cx.2.1 hd (k a h2 e p l en R s m args below meth c b kd ka D cA cx H locs cells slots mc ms ls q1 q2 q3 q4 hS hW hl)
theorem am_ishr {x y : Int32} (hd : am_at mt.2.1 pc .ishr 1 pc') (k : am_Sm xs cv mt d rc rs pc' L (am_I (x >>> (y &&& 31)) :: st) h res) : am_Sm xs cv mt d rc rs pc L (am_I y :: am_I x :: st) h res := by
  obtain ⟨hd, rfl⟩ := hd
  intro a h2 e p l en R s m args below meth c b kd ka D cA cx H locs cells slots mc ms ls q1 q2 q3 q4 hS hW hl
  exact lv_ishr cx.1 cx.2.1 hd (k a h2 e p l en R s m args below meth c b kd ka D cA cx H locs cells slots mc ms ls q1 q2 q3 q4 hS hW hl)
theorem am_ineg {x : Int32} (hd : am_at mt.2.1 pc .ineg 1 pc') (k : am_Sm xs cv mt d rc rs pc' L (am_I (-x) :: st) h res) : am_Sm xs cv mt d rc rs pc L (am_I x :: st) h res := by
  obtain ⟨hd, rfl⟩ := hd
  intro a h2 e p l en R s m args below meth c b kd ka D cA cx H locs cells slots mc ms ls q1 q2 q3 q4 hS hW hl
  exact lv_ineg cx.1 cx.2.1 hd (k a h2 e p l en R s m args below meth c b kd ka D cA cx H locs cells slots mc ms ls q1 q2 q3 q4 hS hW hl)
theorem am_i2b {x : Int32} (hd : am_at mt.2.1 pc .i2b 1 pc') (k : am_Sm xs cv mt d rc rs pc' L (am_I (x.toInt8.toInt32) :: st) h res) : am_Sm xs cv mt d rc rs pc L (am_I x :: st) h res := by
  obtain ⟨hd, rfl⟩ := hd
  intro a h2 e p l en R s m args below meth c b kd ka D cA cx H locs cells slots mc ms ls q1 q2 q3 q4 hS hW hl
  exact lv_i2b cx.1 cx.2.1 hd rfl (k a h2 e p l en R s m args below meth c b kd ka D cA cx H locs cells slots mc ms ls q1 q2 q3 q4 hS hW hl)
theorem am_i2s {x : Int32} (hd : am_at mt.2.1 pc .i2s 1 pc') (k : am_Sm xs cv mt d rc rs pc' L (am_I (x.toInt16.toInt32) :: st) h res) : am_Sm xs cv mt d rc rs pc L (am_I x :: st) h res := by
  obtain ⟨hd, rfl⟩ := hd
  intro a h2 e p l en R s m args below meth c b kd ka D cA cx H locs cells slots mc ms ls q1 q2 q3 q4 hS hW hl
  exact lv_i2s cx.1 cx.2.1 hd rfl (k a h2 e p l en R s m args below meth c b kd ka D cA cx H locs cells slots mc ms ls q1 q2 q3 q4 hS hW hl)
theorem am_i2c {x : Int32} (hd : am_at mt.2.1 pc .i2c 1 pc') (k : am_Sm xs cv mt d rc rs pc' L (am_I ((x.toUInt32 % 65536).toInt32) :: st) h res) : am_Sm xs cv mt d rc rs pc L (am_I x :: st) h res := by
  obtain ⟨hd, rfl⟩ := hd
  intro a h2 e p l en R s m args below meth c b kd ka D cA cx H locs cells slots mc ms ls q1 q2 q3 q4 hS hW hl
  exact lv_i2c cx.1 cx.2.1 hd rfl (k a h2 e p l en R s m args below meth c b kd ka D cA cx H locs cells slots mc ms ls q1 q2 q3 q4 hS hW hl)
def am_ush (x y : Int32) : Int32 := (x.toUInt32 >>> (y.toUInt32 &&& Int32.toUInt32 31)).toInt32
def am_rem (x y : Int32) : Int32 := x - x / y * y
theorem am_iushr {x y : Int32} (hd : am_at mt.2.1 pc .iushr 1 pc') (k : am_Sm xs cv mt d rc rs pc' L (am_I (am_ush x y) :: st) h res) : am_Sm xs cv mt d rc rs pc L (am_I y :: am_I x :: st) h res := by
  obtain ⟨hd, rfl⟩ := hd
  intro a h2 e p l en R s m args below meth c b kd ka D cA cx H locs cells slots mc ms ls q1 q2 q3 q4 hS hW hl
  exact lv_iushr cx.1 cx.2.1 hd rfl (k a h2 e p l en R s m args below meth c b kd ka D cA cx H locs cells slots mc ms ls q1 q2 q3 q4 hS hW hl)
theorem am_idiv {x y : Int32} (hd : am_at mt.2.1 pc .idiv 1 pc') (k : am_Sm xs cv mt d rc rs pc' L (am_I (x / y) :: st) h res) : am_Sm xs cv mt d rc rs pc L (am_I y :: am_I x :: st) h (am_gd (am_nz y) res) := by
  obtain ⟨hd, rfl⟩ := hd
  intro a h2 e p l en R s m args below meth c b kd ka D cA cx H locs cells slots mc ms ls q1 q2 q3 q4 hS hW hl
  obtain ⟨g, e⟩ := am_gd_inv e
  have hy : ¬ y = 0 := by intro q; rw [q] at g; cases g
  exact lv_idiv cx.1 cx.2.1 hd hy (k a h2 e p l en R s m args below meth c b kd ka D cA cx H locs cells slots mc ms ls q1 q2 q3 q4 hS hW hl)
theorem am_irem {x y : Int32} (hd : am_at mt.2.1 pc .irem 1 pc') (k : am_Sm xs cv mt d rc rs pc' L (am_I (am_rem x y) :: st) h res) : am_Sm xs cv mt d rc rs pc L (am_I y :: am_I x :: st) h (am_gd (am_nz y) res) := by
  obtain ⟨hd, rfl⟩ := hd
  intro a h2 e p l en R s m args below meth c b kd ka D cA cx H locs cells slots mc ms ls q1 q2 q3 q4 hS hW hl
  obtain ⟨g, e⟩ := am_gd_inv e
  have hy : ¬ y = 0 := by intro q; rw [q] at g; cases g
  exact lv_irem cx.1 cx.2.1 hd hy (k a h2 e p l en R s m args below meth c b kd ka D cA cx H locs cells slots mc ms ls q1 q2 q3 q4 hS hW hl)
theorem am_dup {v : am_V} (hd : am_at mt.2.1 pc .dup 1 pc') (k : am_Sm xs cv mt d rc rs pc' L (v :: v :: st) h res) : am_Sm xs cv mt d rc rs pc L (v :: st) h res := by
  obtain ⟨hd, rfl⟩ := hd
  intro a h2 e p l en R s m args below meth c b kd ka D cA cx H locs cells slots mc ms ls q1 q2 q3 q4 hS hW hl
  exact lv_dup cx.1 cx.2.1 hd (am_tv_cat b kd v) (k a h2 e p l en R s m args below meth c b kd ka D cA cx H locs cells slots mc ms ls q1 q2 q3 q4 hS hW hl)
theorem am_pop {v : am_V} (hd : am_at mt.2.1 pc .pop 1 pc') (k : am_Sm xs cv mt d rc rs pc' L st h res) : am_Sm xs cv mt d rc rs pc L (v :: st) h res := by
  obtain ⟨hd, rfl⟩ := hd
  intro a h2 e p l en R s m args below meth c b kd ka D cA cx H locs cells slots mc ms ls q1 q2 q3 q4 hS hW hl
  exact lv_pop cx.1 cx.2.1 hd (am_tv_cat b kd v) (k a h2 e p l en R s m args below meth c b kd ka D cA cx H locs cells slots mc ms ls q1 q2 q3 q4 hS hW hl)
theorem am_dup2 {v w : am_V} (hd : am_at mt.2.1 pc .dup2 1 pc') (k : am_Sm xs cv mt d rc rs pc' L (v :: w :: v :: w :: st) h res) : am_Sm xs cv mt d rc rs pc L (v :: w :: st) h res := by
  obtain ⟨hd, rfl⟩ := hd
  intro a h2 e p l en R s m args below meth c b kd ka D cA cx H locs cells slots mc ms ls q1 q2 q3 q4 hS hW hl
  exact lv_dup2_11 cx.1 cx.2.1 hd (am_tv_cat b kd v) (am_tv_cat b kd w) (k a h2 e p l en R s m args below meth c b kd ka D cA cx H locs cells slots mc ms ls q1 q2 q3 q4 hS hW hl)
theorem am_icmp_eq {x y : Int32} {off : Int} {tgt : Nat} {r1 r2 : Option (α × am_H)} (hd : am_at mt.2.1 pc (.if_icmp .eq off) 3 pc') (ht : (pc : Int) + off = (tgt : Int)) (k1 : x = y → am_Sm xs cv mt d rc rs tgt L st h r1) (k2 : ¬ (x = y) → am_Sm xs cv mt d rc rs pc' L st h r2) : am_Sm xs cv mt d rc rs pc L (am_I y :: am_I x :: st) h (if x = y then r1 else r2) := by
  obtain ⟨hd, rfl⟩ := hd
  intro a h2 e p l en R s m args below meth c b kd ka D cA cx H locs cells slots mc ms ls q1 q2 q3 q4 hS hW hl
  refine lv_icmp_eq cx.1 cx.2.1 hd ht (fun hc => ?_) (fun hc => ?_)
  · rw [if_pos hc] at e; exact k1 hc a h2 e p l en R s m args below meth c b kd ka D cA cx H locs cells slots mc ms ls q1 q2 q3 q4 hS hW hl
  · rw [if_neg hc] at e; exact k2 hc a h2 e p l en R s m args below meth c b kd ka D cA cx H locs cells slots mc ms ls q1 q2 q3 q4 hS hW hl
theorem am_if_eq {x : Int32} {off : Int} {tgt : Nat} {r1 r2 : Option (α × am_H)} (hd : am_at mt.2.1 pc (.ifCond .eq off) 3 pc') (ht : (pc : Int) + off = (tgt : Int)) (k1 : x = 0 → am_Sm xs cv mt d rc rs tgt L st h r1) (k2 : ¬ (x = 0) → am_Sm xs cv mt d rc rs pc' L st h r2) : am_Sm xs cv mt d rc rs pc L (am_I x :: st) h (if x = 0 then r1 else r2) := by
  obtain ⟨hd, rfl⟩ := hd
  intro a h2 e p l en R s m args below meth c b kd ka D cA cx H locs cells slots mc ms ls q1 q2 q3 q4 hS hW hl
  refine lv_if_eq cx.1 cx.2.1 hd ht (fun hc => ?_) (fun hc => ?_)
  · rw [if_pos hc] at e; exact k1 hc a h2 e p l en R s m args below meth c b kd ka D cA cx H locs cells slots mc ms ls q1 q2 q3 q4 hS hW hl
  · rw [if_neg hc] at e; exact k2 hc a h2 e p l en R s m args below meth c b kd ka D cA cx H locs cells slots mc ms ls q1 q2 q3 q4 hS hW hl
theorem am_icmp_ne {x y : Int32} {off : Int} {tgt : Nat} {r1 r2 : Option (α × am_H)} (hd : am_at mt.2.1 pc (.if_icmp .ne off) 3 pc') (ht : (pc : Int) + off = (tgt : Int)) (k1 : ¬ x = y → am_Sm xs cv mt d rc rs tgt L st h r1) (k2 : x = y → am_Sm xs cv mt d rc rs pc' L st h r2) : am_Sm xs cv mt d rc rs pc L (am_I y :: am_I x :: st) h (if x = y then r2 else r1) := by
  obtain ⟨hd, rfl⟩ := hd
  intro a h2 e p l en R s m args below meth c b kd ka D cA cx H locs cells slots mc ms ls q1 q2 q3 q4 hS hW hl
  refine lv_icmp_ne cx.1 cx.2.1 hd ht (fun hc => ?_) (fun hc => ?_)
  · rw [if_neg hc] at e; exact k1 hc a h2 e p l en R s m args below meth c b kd ka D cA cx H locs cells slots mc ms ls q1 q2 q3 q4 hS hW hl
  · rw [if_pos hc] at e; exact k2 hc a h2 e p l en R s m args below meth c b kd ka D cA cx H locs cells slots mc ms ls q1 q2 q3 q4 hS hW hl
theorem am_if_ne {x : Int32} {off : Int} {tgt : Nat} {r1 r2 : Option (α × am_H)} (hd : am_at mt.2.1 pc (.ifCond .ne off) 3 pc') (ht : (pc : Int) + off = (tgt : Int)) (k1 : ¬ x = 0 → am_Sm xs cv mt d rc rs tgt L st h r1) (k2 : x = 0 → am_Sm xs cv mt d rc rs pc' L st h r2) : am_Sm xs cv mt d rc rs pc L (am_I x :: st) h (if x = 0 then r2 else r1) := by
  obtain ⟨hd, rfl⟩ := hd
  intro a h2 e p l en R s m args below meth c b kd ka D cA cx H locs cells slots mc ms ls q1 q2 q3 q4 hS hW hl
  refine lv_if_ne cx.1 cx.2.1 hd ht (fun hc => ?_) (fun hc => ?_)
  · rw [if_neg hc] at e; exact k1 hc a h2 e p l en R s m args below meth c b kd ka D cA cx H locs cells slots mc ms ls q1 q2 q3 q4 hS hW hl
  · rw [if_pos hc] at e; exact k2 hc a h2 e p l en R s m args below meth c b kd ka D cA cx H locs cells slots mc ms ls q1 q2 q3 q4 hS hW hl
theorem am_icmp_lt {x y : Int32} {off : Int} {tgt : Nat} {r1 r2 : Option (α × am_H)} (hd : am_at mt.2.1 pc (.if_icmp .lt off) 3 pc') (ht : (pc : Int) + off = (tgt : Int)) (k1 : x < y → am_Sm xs cv mt d rc rs tgt L st h r1) (k2 : ¬ (x < y) → am_Sm xs cv mt d rc rs pc' L st h r2) : am_Sm xs cv mt d rc rs pc L (am_I y :: am_I x :: st) h (if x < y then r1 else r2) := by
  obtain ⟨hd, rfl⟩ := hd
  intro a h2 e p l en R s m args below meth c b kd ka D cA cx H locs cells slots mc ms ls q1 q2 q3 q4 hS hW hl
  refine lv_icmp_lt cx.1 cx.2.1 hd ht (fun hc => ?_) (fun hc => ?_)
  · rw [if_pos hc] at e; exact k1 hc a h2 e p l en R s m args below meth c b kd ka D cA cx H locs cells slots mc ms ls q1 q2 q3 q4 hS hW hl
  · rw [if_neg hc] at e; exact k2 hc a h2 e p l en R s m args below meth c b kd ka D cA cx H locs cells slots mc ms ls q1 q2 q3 q4 hS hW hl
theorem am_if_lt {x : Int32} {off : Int} {tgt : Nat} {r1 r2 : Option (α × am_H)} (hd : am_at mt.2.1 pc (.ifCond .lt off) 3 pc') (ht : (pc : Int) + off = (tgt : Int)) (k1 : x < 0 → am_Sm xs cv mt d rc rs tgt L st h r1) (k2 : ¬ (x < 0) → am_Sm xs cv mt d rc rs pc' L st h r2) : am_Sm xs cv mt d rc rs pc L (am_I x :: st) h (if x < 0 then r1 else r2) := by
  obtain ⟨hd, rfl⟩ := hd
  intro a h2 e p l en R s m args below meth c b kd ka D cA cx H locs cells slots mc ms ls q1 q2 q3 q4 hS hW hl
  refine lv_if_lt cx.1 cx.2.1 hd ht (fun hc => ?_) (fun hc => ?_)
  · rw [if_pos hc] at e; exact k1 hc a h2 e p l en R s m args below meth c b kd ka D cA cx H locs cells slots mc ms ls q1 q2 q3 q4 hS hW hl
  · rw [if_neg hc] at e; exact k2 hc a h2 e p l en R s m args below meth c b kd ka D cA cx H locs cells slots mc ms ls q1 q2 q3 q4 hS hW hl
theorem am_icmp_ge {x y : Int32} {off : Int} {tgt : Nat} {r1 r2 : Option (α × am_H)} (hd : am_at mt.2.1 pc (.if_icmp .ge off) 3 pc') (ht : (pc : Int) + off = (tgt : Int)) (k1 : y ≤ x → am_Sm xs cv mt d rc rs tgt L st h r1) (k2 : ¬ (y ≤ x) → am_Sm xs cv mt d rc rs pc' L st h r2) : am_Sm xs cv mt d rc rs pc L (am_I y :: am_I x :: st) h (if y ≤ x then r1 else r2) := by
  obtain ⟨hd, rfl⟩ := hd
  intro a h2 e p l en R s m args below meth c b kd ka D cA cx H locs cells slots mc ms ls q1 q2 q3 q4 hS hW hl
  refine lv_icmp_ge cx.1 cx.2.1 hd ht (fun hc => ?_) (fun hc => ?_)
  · rw [if_pos hc] at e; exact k1 hc a h2 e p l en R s m args below meth c b kd ka D cA cx H locs cells slots mc ms ls q1 q2 q3 q4 hS hW hl
  · rw [if_neg hc] at e; exact k2 hc a h2 e p l en R s m args below meth c b kd ka D cA cx H locs cells slots mc ms ls q1 q2 q3 q4 hS hW hl
theorem am_if_ge {x : Int32} {off : Int} {tgt : Nat} {r1 r2 : Option (α × am_H)} (hd : am_at mt.2.1 pc (.ifCond .ge off) 3 pc') (ht : (pc : Int) + off = (tgt : Int)) (k1 : 0 ≤ x → am_Sm xs cv mt d rc rs tgt L st h r1) (k2 : ¬ (0 ≤ x) → am_Sm xs cv mt d rc rs pc' L st h r2) : am_Sm xs cv mt d rc rs pc L (am_I x :: st) h (if 0 ≤ x then r1 else r2) := by
  obtain ⟨hd, rfl⟩ := hd
  intro a h2 e p l en R s m args below meth c b kd ka D cA cx H locs cells slots mc ms ls q1 q2 q3 q4 hS hW hl
  refine lv_if_ge cx.1 cx.2.1 hd ht (fun hc => ?_) (fun hc => ?_)
  · rw [if_pos hc] at e; exact k1 hc a h2 e p l en R s m args below meth c b kd ka D cA cx H locs cells slots mc ms ls q1 q2 q3 q4 hS hW hl
  · rw [if_neg hc] at e; exact k2 hc a h2 e p l en R s m args below meth c b kd ka D cA cx H locs cells slots mc ms ls q1 q2 q3 q4 hS hW hl
theorem am_icmp_gt {x y : Int32} {off : Int} {tgt : Nat} {r1 r2 : Option (α × am_H)} (hd : am_at mt.2.1 pc (.if_icmp .gt off) 3 pc') (ht : (pc : Int) + off = (tgt : Int)) (k1 : y < x → am_Sm xs cv mt d rc rs tgt L st h r1) (k2 : ¬ (y < x) → am_Sm xs cv mt d rc rs pc' L st h r2) : am_Sm xs cv mt d rc rs pc L (am_I y :: am_I x :: st) h (if y < x then r1 else r2) := by
  obtain ⟨hd, rfl⟩ := hd
  intro a h2 e p l en R s m args below meth c b kd ka D cA cx H locs cells slots mc ms ls q1 q2 q3 q4 hS hW hl
  refine lv_icmp_gt cx.1 cx.2.1 hd ht (fun hc => ?_) (fun hc => ?_)
  · rw [if_pos hc] at e; exact k1 hc a h2 e p l en R s m args below meth c b kd ka D cA cx H locs cells slots mc ms ls q1 q2 q3 q4 hS hW hl
  · rw [if_neg hc] at e; exact k2 hc a h2 e p l en R s m args below meth c b kd ka D cA cx H locs cells slots mc ms ls q1 q2 q3 q4 hS hW hl
theorem am_if_gt {x : Int32} {off : Int} {tgt : Nat} {r1 r2 : Option (α × am_H)} (hd : am_at mt.2.1 pc (.ifCond .gt off) 3 pc') (ht : (pc : Int) + off = (tgt : Int)) (k1 : 0 < x → am_Sm xs cv mt d rc rs tgt L st h r1) (k2 : ¬ (0 < x) → am_Sm xs cv mt d rc rs pc' L st h r2) : am_Sm xs cv mt d rc rs pc L (am_I x :: st) h (if 0 < x then r1 else r2) := by
  obtain ⟨hd, rfl⟩ := hd
  intro a h2 e p l en R s m args below meth c b kd ka D cA cx H locs cells slots mc ms ls q1 q2 q3 q4 hS hW hl
  refine lv_if_gt cx.1 cx.2.1 hd ht (fun hc => ?_) (fun hc => ?_)
  · rw [if_pos hc] at e; exact k1 hc a h2 e p l en R s m args below meth c b kd ka D cA cx H locs cells slots mc ms ls q1 q2 q3 q4 hS hW hl
  · rw [if_neg hc] at e; exact k2 hc a h2 e p l en R s m args below meth c b kd ka D cA cx H locs cells slots mc ms ls q1 q2 q3 q4 hS hW hl
theorem am_icmp_le {x y : Int32} {off : Int} {tgt : Nat} {r1 r2 : Option (α × am_H)} (hd : am_at mt.2.1 pc (.if_icmp .le off) 3 pc') (ht : (pc : Int) + off = (tgt : Int)) (k1 : x ≤ y → am_Sm xs cv mt d rc rs tgt L st h r1) (k2 : ¬ (x ≤ y) → am_Sm xs cv mt d rc rs pc' L st h r2) : am_Sm xs cv mt d rc rs pc L (am_I y :: am_I x :: st) h (if x ≤ y then r1 else r2) := by
  obtain ⟨hd, rfl⟩ := hd
  intro a h2 e p l en R s m args below meth c b kd ka D cA cx H locs cells slots mc ms ls q1 q2 q3 q4 hS hW hl
  refine lv_icmp_le cx.1 cx.2.1 hd ht (fun hc => ?_) (fun hc => ?_)
  · rw [if_pos hc] at e; exact k1 hc a h2 e p l en R s m args below meth c b kd ka D cA cx H locs cells slots mc ms ls q1 q2 q3 q4 hS hW hl
  · rw [if_neg hc] at e; exact k2 hc a h2 e p l en R s m args below meth c b kd ka D cA cx H locs cells slots mc ms ls q1 q2 q3 q4 hS hW hl
theorem am_if_le {x : Int32} {off : Int} {tgt : Nat} {r1 r2 : Option (α × am_H)} (hd : am_at mt.2.1 pc (.ifCond .le off) 3 pc') (ht : (pc : Int) + off = (tgt : Int)) (k1 : x ≤ 0 → am_Sm xs cv mt d rc rs tgt L st h r1) (k2 : ¬ (x ≤ 0) → am_Sm xs cv mt d rc rs pc' L st h r2) : am_Sm xs cv mt d rc rs pc L (am_I x :: st) h (if x ≤ 0 then r1 else r2) := by
  obtain ⟨hd, rfl⟩ := hd
  intro a h2 e p l en R s m args below meth c b kd ka D cA cx H locs cells slots mc ms ls q1 q2 q3 q4 hS hW hl
  refine lv_if_le cx.1 cx.2.1 hd ht (fun hc => ?_) (fun hc => ?_)
  · rw [if_pos hc] at e; exact k1 hc a h2 e p l en R s m args below meth c b kd ka D cA cx H locs cells slots mc ms ls q1 q2 q3 q4 hS hW hl
  · rw [if_neg hc] at e; exact k2 hc a h2 e p l en R s m args below meth c b kd ka D cA cx H locs cells slots mc ms ls q1 q2 q3 q4 hS hW hl
theorem am_goto {off : Int} {tgt : Nat} (hd : am_at mt.2.1 pc (.goto off) 3 pc') (ht : (pc : Int) + off = (tgt : Int)) (k : am_Sm xs cv mt d rc rs tgt L st h res) : am_Sm xs cv mt d rc rs pc L st h res := by
  obtain ⟨hd, rfl⟩ := hd
  intro a h2 e p l en R s m args below meth c b kd ka D cA cx H locs cells slots mc ms ls q1 q2 q3 q4 hS hW hl
  exact lv_goto cx.1 cx.2.1 hd ht (k a h2 e p l en R s m args below meth c b kd ka D cA cx H locs cells slots mc ms ls q1 q2 q3 q4 hS hW hl)
/-- a switch's own judgement: the cases one by one, then the default -/
def am_Sw {α : Type} (xs : List Int32) (cv : α → Option am_V) (mt : am_M) (d rc rs : Nat) (x : Int32) (cs : List (Int32 × Nat)) (dt : Nat) (L : List (Option am_V)) (st : List am_V) (h : am_H) (res : Option (α × am_H)) : Prop :=
  am_Sm xs cv mt d rc rs ((cs.find? (fun q => q.1 == x)).elim dt (fun q => q.2)) L st h res
theorem am_sw_cons {x v : Int32} {t dt : Nat} {cs : List (Int32 × Nat)} {r1 r2 : Option (α × am_H)} (k1 : x = v → am_Sm xs cv mt d rc rs t L st h r1) (k2 : ¬ x = v → am_Sw xs cv mt d rc rs x cs dt L st h r2) : am_Sw xs cv mt d rc rs x ((v, t) :: cs) dt L st h (if x = v then r1 else r2) := by
  unfold am_Sw
  by_cases hx : x = v
  · rw [if_pos hx]
    have : List.find? (fun q => q.1 == x) ((v, t) :: cs) = some (v, t) := by simp [List.find?_cons, hx]
    rw [this]
    exact k1 hx
  · rw [if_neg hx]
    have : List.find? (fun q => q.1 == x) ((v, t) :: cs) = List.find? (fun q => q.1 == x) cs := by
      rw [List.find?_cons]
      have : ((v, t).1 == x) = false := by simp; exact fun q => hx q.symm
      rw [this]
    rw [this]
    exact k2 hx
theorem am_sw_nil {x : Int32} {dt : Nat} (k : am_Sm xs cv mt d rc rs dt L st h res) : am_Sw xs cv mt d rc rs x [] dt L st h res := k
/-- the table says what the cases say -/
def am_tck (pc : Nat) (dflt lo hi : Int) (offs : List Int) (cs : List (Int32 × Nat)) (dt : Nat) : Bool :=
  decide ((pc : Int) + dflt = (dt : Int)) && decide (hi - lo + 1 = (offs.length : Int)) && decide (-2147483648 ≤ lo) && decide (hi ≤ 2147483647) && ((List.range offs.length).all fun i => match offs[i]? with
    | none => false
    | some off => decide ((pc : Int) + off = (((cs.find? (fun q => q.1 == Int32.ofInt (lo + (i : Int)))).elim dt (fun q => q.2) : Nat) : Int))) && (cs.all fun q => decide (lo ≤ q.1.toInt) && decide (q.1.toInt ≤ hi))
theorem am_table {x : Int32} {dflt lo hi : Int} {offs : Array Int} {n : Nat} {cs : List (Int32 × Nat)} {dt : Nat} (hd : am_at mt.2.1 pc (.tableswitch dflt lo hi offs) n pc') (hc : am_tck pc dflt lo hi offs.toList cs dt = true) (k : am_Sw xs cv mt d rc rs x cs dt L st h res) : am_Sm xs cv mt d rc rs pc L (am_I x :: st) h res := by
  obtain ⟨hd, rfl⟩ := hd
  intro a h2 e p l en R s m args below meth c b kd ka D cA cx H locs cells slots mc ms ls q1 q2 q3 q4 hS hW hl
  simp only [am_tck, Bool.and_eq_true, decide_eq_true_eq, List.all_eq_true, List.mem_range] at hc
  obtain ⟨⟨⟨⟨⟨c1, c2⟩, c3⟩, c4⟩, c5⟩, c6⟩ := hc
  have kk := k a h2 e p l en R s m args below meth c b kd ka D cA cx H locs cells slots mc ms ls q1 q2 q3 q4 hS hW hl
  by_cases hlo : x.toInt < lo ∨ hi < x.toInt
  · have hf : cs.find? (fun q => q.1 == x) = none := by
      rw [List.find?_eq_none]
      intro q hq hqx
      have h6 := c6 q hq
      have : q.1 = x := eq_of_beq hqx
      rw [this] at h6
      omega
    rw [hf] at kk
    exact lv_tableOut cx.1 cx.2.1 hd hlo c1 kk
  · have hl1 : ¬ x.toInt < lo := fun q => hlo (Or.inl q)
    have hl2 : ¬ hi < x.toInt := fun q => hlo (Or.inr q)
    have hi1 : (x.toInt - lo).toNat < offs.toList.length := by omega
    have h5 := c5 _ hi1
    cases ho : offs.toList[(x.toInt - lo).toNat]? with
    | none => rw [ho] at h5; cases h5
    | some off =>
      rw [ho] at h5
      have h5 := of_decide_eq_true h5
      have hx : Int32.ofInt (lo + (((x.toInt - lo).toNat : Nat) : Int)) = x := by
        rw [show lo + (((x.toInt - lo).toNat : Nat) : Int) = x.toInt by omega]
        exact Int32.ofInt_toInt x
      rw [hx] at h5
      exact lv_tableIn cx.1 cx.2.1 hd hl1 hl2 (by rw [← Array.getElem?_toList]; exact ho) h5 kk
def am_lck (pc : Nat) (dflt : Int) (ps : List (Int × Int)) (cs : List (Int32 × Nat)) (dt : Nat) : Bool :=
  decide ((pc : Int) + dflt = (dt : Int)) && (ps.zip (ps.drop 1)).all (fun (a, next) => a.1 < next.1) && ps.all (fun q => decide (-2147483648 ≤ q.1) && decide (q.1 ≤ 2147483647)) && decide (ps.map (fun q => (Int32.ofInt q.1, ((pc : Int) + q.2))) = cs.map (fun q => (q.1, (q.2 : Int))))
theorem am_lookoff (pc : Nat) (dflt : Int) (dt : Nat) (hdt : (pc : Int) + dflt = (dt : Int)) (x : Int32) : ∀ (ps : List (Int × Int)) (cs : List (Int32 × Nat)), (∀ q ∈ ps, -2147483648 ≤ q.1 ∧ q.1 ≤ 2147483647) → ps.map (fun q => (Int32.ofInt q.1, ((pc : Int) + q.2))) = cs.map (fun q => (q.1, (q.2 : Int))) → (pc : Int) + Op.lookupswitch.offset ps dflt x.toInt = (((cs.find? (fun q => q.1 == x)).elim dt (fun q => q.2) : Nat) : Int) := by
  intro ps
  induction ps with
  | nil =>
    intro cs _ hm
    cases cs with
    | nil => simpa [Op.lookupswitch.offset] using hdt
    | cons q cs => simp at hm
  | cons z ps ih =>
    intro cs hb hm
    cases cs with
    | nil => simp at hm
    | cons q cs =>
      simp only [List.map_cons, List.cons.injEq, Prod.mk.injEq] at hm
      obtain ⟨⟨m1, m2⟩, m3⟩ := hm
      have hz := hb z List.mem_cons_self
      have hi := ih cs (fun w hw => hb w (List.mem_cons_of_mem _ hw)) m3
      rw [List.find?_cons]
      by_cases hx : z.1 = x.toInt
      · have : (q.1 == x) = true := by rw [← m1, hx, Int32.ofInt_toInt]; simp
        rw [this]
        simp [Op.lookupswitch.offset, hx, m2]
      · have : (q.1 == x) = false := by
          rw [← m1]
          simp only [beq_eq_false_iff_ne, ne_eq]
          intro hq
          apply hx
          rw [← hq]
          symm
          exact Int32.toInt_ofInt_of_le (by omega) (by omega)
        rw [this]
        simp only [Op.lookupswitch.offset] at hi ⊢
        simp [hx]
        simpa using hi
theorem am_lookup {x : Int32} {dflt : Int} {ps : Array (Int × Int)} {n : Nat} {cs : List (Int32 × Nat)} {dt : Nat} (hd : am_at mt.2.1 pc (.lookupswitch dflt ps) n pc') (hc : am_lck pc dflt ps.toList cs dt = true) (k : am_Sw xs cv mt d rc rs x cs dt L st h res) : am_Sm xs cv mt d rc rs pc L (am_I x :: st) h res := by
  obtain ⟨hd, rfl⟩ := hd
  intro a h2 e p l en R s m args below meth c b kd ka D cA cx H locs cells slots mc ms ls q1 q2 q3 q4 hS hW hl
  simp only [am_lck, Bool.and_eq_true, decide_eq_true_eq] at hc
  obtain ⟨⟨⟨c1, c2⟩, c3⟩, c4⟩ := hc
  have kk := k a h2 e p l en R s m args below meth c b kd ka D cA cx H locs cells slots mc ms ls q1 q2 q3 q4 hS hW hl
  have c3' : ∀ q ∈ ps.toList, -2147483648 ≤ q.1 ∧ q.1 ≤ 2147483647 := fun q hq => by
    have := List.all_eq_true.mp c3 q hq
    simpa using this
  exact lv_lookup cx.1 cx.2.1 hd c2 rfl (am_lookoff pc dflt dt c1 x ps.toList cs c3' c4) kk
end AM5
