/-! ===== words, constants, the judgements ===== -/
def am_gw : List Cond := lw_tbl.filter goodWord
theorem am_gw_of {w : Cond} (h : w ∈ lw_tbl) (g : goodWord w = true) : w ∈ am_gw := List.mem_filter.mpr ⟨h, g⟩
theorem am_gw_good : GoodIn am_gw am_gw := fun w h => ⟨h, good_of_word (List.mem_filter.mp h).2⟩
abbrev am_M : Type := MethodName × ByteArray × Nat × Option FieldType
def am_ws (mt : am_M) : List Cond := .code mt.1 mt.2.1 mt.2.2.1 mt.2.2.2 :: am_gw
def am_Ok (mt : am_M) (n : Nat) : Prop := Cond.code mt.1 mt.2.1 mt.2.2.1 mt.2.2.2 ∈ am_gw ∧ Cond.initialized mt.1.cls ∈ am_gw ∧ plainName mt.1.cls = true ∧ (mt.1.cls ≠ "java/lang/invoke/MethodHandle" ∧ mt.1.cls ≠ "java/lang/invoke/VarHandle" ∧ (parseMethodDescriptor mt.1.desc).map (fun d => d.parameters.length) = some n) ∧ mt.2.2.1 ≤ 13
theorem am_ws_good {mt : am_M} {n : Nat} (h : am_Ok mt n) : GoodIn am_gw (am_ws mt) := by
  intro w hw
  rcases List.mem_cons.mp hw with rfl | hw
  · exact am_gw_good _ h.1
  · exact am_gw_good _ hw
/-- constant objects: 0 KIND_ABOVE, 1 FIVES, 2 .. 7 the texts, 8 the script, 12 .. 17 the texts' bytes, 20 a formatter that nobody asks -/
def am_kc (xs : List Int32) (c : Nat) : List Int32 := match c with
  | 0 => [-1, 0, 0, 1, 2, 0]
  | 1 => [1, 5, 25, 125, 625]
  | 8 => xs
  | 12 => [112, 97, 105, 114]
  | 13 => [119, 101, 97, 114]
  | 14 => [102, 105, 110, 101]
  | 15 => [97, 98, 119]
  | 16 => [120, 112]
  | 17 => [100, 108]
  | _ => []
def am_kt (i : Nat) : String := match i with
  | 0 => "pair" | 1 => "wear" | 2 => "fine" | 3 => "abw" | 4 => "xp" | _ => "dl"
def am_kp (i : Nat) : Nat := match i with
  | 0 => 59 | 1 => 68 | 2 => 70 | 3 => 115 | 4 => 117 | _ => 119
def am_kl : List Nat := [4, 4, 4, 3, 2, 2]
def am_kb : List (List Int32) := [[112, 97, 105, 114], [119, 101, 97, 114], [102, 105, 110, 101], [97, 98, 119], [120, 112], [100, 108]]
def am_A (b : Nat) : Nat → Prop := fun q => b ≤ q
def am_nM (n : Nat) : String × Nat × MethodName := match n with
  | 0 => ("TwoGuilds$Guild", 17, yX1_init)
  | 1 => ("TwoGuilds$Slot", 17, yX1_init)
  | 2 => ("TwoGuilds$Guild", 51, yX9_within)
  | 3 => ("TwoGuilds$Glove", 35, yX9_isKind)
  | 4 => ("TwoGuilds$Guild", 97, yX9_held)
  | 5 => ("TwoGuilds$Table", 43, yX9_within)
  | 6 => ("TwoGuilds$Sheet", 28, yX9_within)
  | _ => ("TwoGuilds$Book", 26, yX9_within)
def am_Co (xs : List Int32) (b : Nat) (kd : Nat → Option Nat) (ka : Nat → Nat) (U : State) : Prop :=
  b ≤ U.heap.size ∧ (∀ n, n < 8 → va_Nw (.methodLinkNest (am_nM n).1 (am_nM n).2.1 (am_nM n).2.2 "TwoGuilds") U) ∧ va_Nw (.fieldLinkNest "TwoGuilds$Glove" 39 "TwoGuilds" "KIND_ABOVE" "[I" "TwoGuilds") U ∧
  (va_AO RX1 U ∧ va_AO RX3 U ∧ va_AO RX5 U ∧ va_AO RX6 U) ∧ (∀ c, c < 20 → kd c = some (ka c)) ∧
  (va_Z "TwoGuilds" "KIND_ABOVE" "[I" (.ref (ka 0)) (am_A b) U U.heap ∧ va_Z "TwoGuildsModel" "FIVES" "[I" (.ref (ka 1)) (am_A b) U U.heap ∧ va_Z "java/lang/String" "COMPACT_STRINGS" "Z" (.int 1) (am_A b) U U.heap ∧ va_Z "jdk/internal/util/Preconditions" "SIOOBE_FORMATTER" "Ljava/util/function/BiFunction;" (va_rf (kd 20)) (am_A b) U U.heap) ∧
  (va_T .int (ka 0) 6 (fun j => .int ((am_kc xs 0).getD j 0)) (am_A b) U U.heap ∧ va_T .int (ka 1) 5 (fun j => .int ((am_kc xs 1).getD j 0)) (am_A b) U U.heap ∧ va_T .int (ka 8) xs.length (fun j => .int (xs.getD j 0)) (am_A b) U U.heap) ∧
  (∀ i, i < 6 → vk_R "TwoGuilds$Tape" (am_kp i) (am_kt i) (ka (2 + i)) U) ∧
  vk_S 6 am_kl am_kb (fun i => ka (2 + i)) (fun i => ka (12 + i)) (am_A b) U U.heap
theorem am_Co.to {xs : List Int32} {b : Nat} {kd : Nat → Option Nat} {ka : Nat → Nat} {s U : State} (h : am_Co xs b kd ka s) (hv : s.WarmedH U.vm) (hsz : b ≤ U.heap.size) (hq : ∀ a : Nat, a < s.heap.size → ¬ am_A b a → U.heap[a]? = s.heap[a]?) : am_Co xs b kd ka U := by
  obtain ⟨h0, h1, h2, ⟨a1, a2, a3, a4⟩, h4, ⟨z1, z2, z3, z4⟩, ⟨t1, t2, t3⟩, h7, h8⟩ := h
  have hl := hv.alike
  exact ⟨hsz, fun n hn => va_Nw.warmM hv (h1 n hn), va_Nw.warmF hv h2, ⟨va_AO.moved hl a1, va_AO.moved hl a2, va_AO.moved hl a3, va_AO.moved hl a4⟩, h4, ⟨(va_Z.moved hl z1).kept hq, (va_Z.moved hl z2).kept hq, (va_Z.moved hl z3).kept hq, (va_Z.moved hl z4).kept hq⟩, ⟨(va_T.moved hl t1).kept hq, (va_T.moved hl t2).kept hq, (va_T.moved hl t3).kept hq⟩, fun i hi => vk_R.warm hv (h7 i hi), (vk_S.moved hl h8).kept hq⟩
theorem am_Co.same {xs : List Int32} {b : Nat} {kd : Nat → Option Nat} {ka : Nat → Nat} {s U : State} (h : am_Co xs b kd ka s) (hv : U.vm = s.vm) (hh : U.heap = s.heap) : am_Co xs b kd ka U := by
  obtain ⟨h0, h1, h2, ⟨a1, a2, a3, a4⟩, h4, ⟨z1, z2, z3, z4⟩, ⟨t1, t2, t3⟩, h7, h8⟩ := h
  have hl : s.vm.Alike U.vm := by rw [hv]; exact Vm.Alike.refl _
  have hq : ∀ a : Nat, a < s.heap.size → ¬ am_A b a → U.heap[a]? = s.heap[a]? := fun a _ _ => by rw [hh]
  exact ⟨by rw [hh]; exact h0, fun n hn => va_Nw.same rfl hv.symm (h1 n hn), va_Nw.same rfl hv.symm h2, ⟨va_AO.moved hl a1, va_AO.moved hl a2, va_AO.moved hl a3, va_AO.moved hl a4⟩, h4, ⟨(va_Z.moved hl z1).kept hq, (va_Z.moved hl z2).kept hq, (va_Z.moved hl z3).kept hq, (va_Z.moved hl z4).kept hq⟩, ⟨(va_T.moved hl t1).kept hq, (va_T.moved hl t2).kept hq, (va_T.moved hl t3).kept hq⟩, fun i hi => vk_R.same hv (h7 i hi), (vk_S.moved hl h8).kept hq⟩
/-- a contract's start and end -/
def am_Pr (xs : List Int32) (b : Nat) (kd : Nat → Option Nat) (ka : Nat → Nat) (D : va_G) (cA : Nat → ClassId) (h : am_H) (U : State) : Prop := am_Co xs b kd ka U ∧ va_K D am_cl (am_ty cA) U ∧ am_W D cA b h U.heap
def am_Qc (b : Nat) (kd : Nat → Option Nat) (D : va_G) (cA : Nat → ClassId) (Q : Option am_V → am_H → Prop) : Array Value → State → Outcome → State → Prop := fun _ st oc t => (∃ (v : Option am_V) (h : am_H), oc = .returned (v.map (am_tv b kd)) ∧ Q v h ∧ am_W D cA b h t.heap) ∧ va_F (am_A b) st t
/-- method mt, called with the values vs in the heap h: it returns, with Q; d: frames; rc, rs: new cells and slots -/
def am_Ct (xs : List Int32) (mt : am_M) (d rc rs : Nat) (vs : List am_V) (h : am_H) (Q : Option am_V → am_H → Prop) : Prop :=
  ∀ (l : Launch) (b : Nat) (kd : Nat → Option Nat) (ka : Nat → Nat) (D : va_G) (cA : Nat → ClassId), Met l mt.1 (am_ws mt) { frames := d, cells := rc, slots := rs, locals := 32 * d } (va_Pc (vs.map (am_tv b kd)) (am_Pr xs b kd ka D cA h)) (am_Qc b kd D cA Q) rc rs (am_A b)
/-- what stands while mt runs -/
def am_Cx (xs : List Int32) (mt : am_M) (d : Nat) (p : Program) (R : Room) (s : State) (m : MethodId) (args : Array Value) (meth : Method) (c : Code) (b : Nat) (kd : Nat → Option Nat) (ka : Nat → Nat) (D : va_G) (cA : Nat → ClassId) : Prop :=
  p.tables.exec = Jvm.exec ∧ c.code = mt.2.1 ∧ c.maxLocals = mt.2.2.1 ∧ s.vm.findClass mt.1.cls = some m.cls ∧ (∀ w ∈ am_gw, w.before args s = true) ∧ meth.sig.returnType = mt.2.2.2 ∧ meth.locks = false ∧ (mt.1.name = "<init>" → meth.name = "<init>") ∧ d ≤ R.frames ∧ 32 * d ≤ R.locals ∧ am_Co xs b kd ka s ∧ va_K D am_cl (am_ty cA) s
/-- locals -/
def am_lh (b : Nat) (kd : Nat → Option Nat) (ls : Array Slot) (n : Nat) (L : List (Option am_V)) : Prop := ls.size = n ∧ lv_wf ls ∧ ∀ (k : Nat) (v : am_V), L[k]? = some (some v) → ls[k]? = some (.val (am_tv b kd v))
/-- mt, at pc, with locals L, stack st, in the heap h, comes to its return with Q -/
def am_Rn (xs : List Int32) (mt : am_M) (d rc rs pc : Nat) (L : List (Option am_V)) (st : List am_V) (h : am_H) (Q : Option am_V → am_H → Prop) : Prop :=
  ∀ (p : Program) (l : Launch) (e : Env) (R : Room) (s : State) (m : MethodId) (args : Array Value) (below : List Frame) (meth : Method) (c : Code) (b : Nat) (kd : Nat → Option Nat) (ka : Nat → Nat) (D : va_G) (cA : Nat → ClassId), am_Cx xs mt d p R s m args meth c b kd ka D cA →
  ∀ (H : Heap) (locs : List Loc) (cells slots mc ms : Nat) (ls : Array Slot), cells + rc ≤ mc → slots + rs ≤ ms → mc ≤ R.cells → ms ≤ R.slots → va_S (am_A b) s.heap H locs → am_W D cA b h H → am_lh b kd ls mt.2.2.1 L →
    W p l e R s m args below meth c H locs cells slots (MQ below (am_Qc b kd D cA Q) args s mc ms (am_A b)) (F0 m pc ls (st.map (am_tv b kd)))
theorem am_hA {xs : List Int32} {b : Nat} {kd : Nat → Option Nat} {ka : Nat → Nat} {s : State} (h : am_Co xs b kd ka s) : ∀ q : Nat, s.heap.size ≤ q → am_A b q := fun _ hq => Nat.le_trans h.1 hq
theorem am_args_len (vs : List Value) (hc : ∀ v ∈ vs, v.category = 1) : (lg_sl vs).length = vs.length := by
  induction vs with
  | nil => rfl
  | cons v vs ih =>
    have h1 := hc v List.mem_cons_self
    have h2 := ih (fun w hw => hc w (List.mem_cons_of_mem _ hw))
    simp [lg_sl, h1] at h2 ⊢
    omega
theorem am_args_get (b : Nat) (kd : Nat → Option Nat) : ∀ (vs : List am_V) (i k : Nat) (v : am_V), vs[k]? = some v → (i + k, am_tv b kd v) ∈ lv_args i (vs.map (am_tv b kd)) := by
  intro vs
  induction vs with
  | nil => intro i k v h; simp at h
  | cons a vs ih =>
    intro i k v h
    cases k with
    | zero =>
      simp at h
      subst h
      simp [lv_args]
    | succ k =>
      have h2 : vs[k]? = some v := by simpa using h
      have h3 := ih (i + 1) k v h2
      have hc : ¬ (am_tv b kd a).category = 2 := by rw [am_tv_cat]; decide
      simp only [List.map_cons, lv_args, if_neg hc]
      rw [show i + (k + 1) = i + 1 + k by omega]
      exact List.mem_cons_of_mem _ h3
/-- a contract out of the walk from the entry -/
theorem am_entry {xs : List Int32} {mt : am_M} {n d rc rs : Nat} {vs : List am_V} {h : am_H} {Q : Option am_V → am_H → Prop} (ok : am_Ok mt n) (hlen : vs.length ≤ mt.2.2.1) (hw : am_Rn xs mt d rc rs 0 (vs.map some) [] h Q) : am_Ct xs mt d rc rs vs h Q := by
  intro l b kd ka D cA
  refine Met.ofW (cc := mt.2.1) (maxL := mt.2.2.1) (ret := mt.2.2.2) ok.2.2.1 rfl ?_
  intro p e s m args below meth c s₁ B hml hv
  obtain ⟨rfl, hCo, hK, hWd⟩ := hv
  have hts := atoms_spec (ws := am_ws mt) B.pre
  have hcat : ∀ v ∈ vs.map (am_tv b kd), v.category = 1 := fun v hv => by
    obtain ⟨z, -, rfl⟩ := List.mem_map.mp hv
    exact am_tv_cat b kd z
  have hl := lv_entry (vs.map (am_tv b kd)) (n := mt.2.2.1) (by rw [am_args_len _ hcat, List.length_map]; exact hlen)
  rw [lg_entry_eq]
  generalize (lg_sl (vs.map (am_tv b kd)) ++ List.replicate (mt.2.2.1 - (lg_sl (vs.map (am_tv b kd))).length) Slot.unset).toArray = ls at hl ⊢
  refine hw p l e _ s m _ below meth c b kd ka D cA ⟨B.exec, B.bytes, hml, findClass_of_methodNamed B.named, fun w hw => hts w (List.mem_cons_of_mem _ hw), B.returns, B.notSynchronized, (fun hi => (name_of_methodNamed B.named B.method).1.trans hi), Nat.le_refl _, Nat.le_refl _, hCo, hK⟩ s.heap [] 0 0 rc rs ls (by omega) (by omega) (Nat.le_refl _) (Nat.le_refl _) va_S.rf hWd ⟨hl.1, hl.2.1, fun k v hk => ?_⟩
  have hk2 : vs[k]? = some v := by
    rw [List.getElem?_map] at hk
    cases hz : vs[k]? with
    | none => rw [hz] at hk; cases hk
    | some z => rw [hz] at hk; simpa using hk
  have := hl.2.2 _ (am_args_get b kd vs 0 k v hk2)
  simpa using this
