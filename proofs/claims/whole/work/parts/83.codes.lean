/-! ===== the codes of a text are in order ===== -/
def pdl : List Int32 → Option Nat
  | [] => some 0
  | x :: r => match pdl r with
    | none => none
    | some d => if 0 ≤ x then some (d + 1) else if x = -10 then (if 1 ≤ d then some d else none) else (if 2 ≤ d then some (d - 1) else none)
theorem pdl_eq {row : Nat → Int32} : ∀ {c : List Int32}, SR row c → pdep row c.length = pdl c := by
  intro c
  induction c with
  | nil => intro _; rfl
  | cons x r ih =>
    intro h
    rw [List.length_cons]
    unfold pdep pdl
    rw [ih h.2, h.1]
    cases pdl r <;> rfl
def nmok (K : Nat) (x : Int32) : Prop := ∀ i, x = 10000 + nI i → i < 3 → i < (if K = 0 then 3 else 2)
def Gd (K : Nat) (c : List Int32) (d : Nat) : Prop := pdl c = some d ∧ ∀ x, x ∈ c → nmok K x
theorem nmok_v {K v : Nat} (h : v ≤ 9999) : nmok K (nI v) := fun i e hi => by
  rw [m10k] at e
  have := (nI_eq (by omega) (by omega)).mp e
  omega
theorem nmok_n {K : Nat} {x : Int32} (h : ¬ 0 ≤ x) : nmok K x := fun i e hi => by
  rw [m10k] at e
  rw [e] at h
  exact absurd (nI_pos' (by omega)) h
theorem Gd_op {K : Nat} {c : List Int32} {d : Nat} {x : Int32} (h : Gd K c d) (hx : 0 ≤ x) (hn : nmok K x) : Gd K (x :: c) (d + 1) := by
  refine ⟨?_, fun y hy => ?_⟩
  · unfold pdl
    rw [h.1]
    show (if 0 ≤ x then _ else _) = _
    rw [if_pos hx]
  · rcases List.mem_cons.mp hy with q | q
    · rw [q]; exact hn
    · exact h.2 y q
theorem Gd_not {K : Nat} {c : List Int32} {d : Nat} (h : Gd K c (d + 1)) : Gd K (-10 :: c) (d + 1) := by
  refine ⟨?_, fun y hy => ?_⟩
  · unfold pdl
    rw [h.1]
    show (if (0 : Int32) ≤ -10 then _ else if (-10 : Int32) = -10 then (if 1 ≤ d + 1 then some (d + 1) else none) else _) = _
    rw [if_neg (by decide), if_pos rfl, if_pos (by omega)]
  · rcases List.mem_cons.mp hy with q | q
    · rw [q]; exact nmok_n (by decide)
    · exact h.2 y q
theorem Gd_two {K : Nat} {c : List Int32} {d : Nat} {x : Int32} (h : Gd K c (d + 2)) (hx : ¬ 0 ≤ x) (hx2 : x ≠ -10) : Gd K (x :: c) (d + 1) := by
  refine ⟨?_, fun y hy => ?_⟩
  · unfold pdl
    rw [h.1]
    show (if 0 ≤ x then _ else if x = -10 then _ else (if 2 ≤ d + 2 then some (d + 2 - 1) else none)) = _
    rw [if_neg hx, if_neg hx2, if_pos (by omega)]
    rfl
  · rcases List.mem_cons.mp hy with q | q
    · rw [q]; exact nmok_n hx
    · exact h.2 y q
theorem sh_neg {b : Nat → Nat} {T : Tk} (h : ¬ sh b T = 0) : ¬ 0 ≤ sh b T := by
  have h3 := sh_3 h
  have e : sh b T = bs (b T.2.1) := by unfold sh; rw [if_pos h3]
  rw [e] at h ⊢
  generalize b T.2.1 = v at *
  by_cases q : v = 38 ∨ v = 42 ∨ v = 43 ∨ v = 45 ∨ v = 47 ∨ v = 60 ∨ v = 61 ∨ v = 62 ∨ v = 124
  · rcases q with rfl | rfl | rfl | rfl | rfl | rfl | rfl | rfl | rfl <;> decide
  · exact absurd (by unfold bs; repeat' rw [if_neg (by omega)]) h
def GdR (K : Nat) (s : PS) (d : Nat) (r : PS × Bool) : Prop := Gd K r.1.2.1 d ∧ r.1.2.2 + s.2.1.length ≤ s.2.2 + r.1.2.1.length
theorem dLo_d {b : Nat → Nat} {n K l : Nat} {fL : PS → PS × Bool} (hg : ∀ s, TkOk b n s.1 → PG b n s (fL s)) (hL : ∀ s d, TkOk b n s.1 → Gd K s.2.1 d → (fL s).2 = true → GdR K s (d + 1) (fL s)) : ∀ k s d, TkOk b n s.1 → Gd K s.2.1 (d + 1) → (dLo b n fL l k s).2 = true → GdR K s (d + 1) (dLo b n fL l k s) := by
  intro k
  induction k with
  | zero => intro s d _ h _; exact ⟨h, Nat.le_refl _⟩
  | succ k ih =>
    intro s d hT h hok
    by_cases hc : ¬ sh b s.1 = 0 ∧ rk (sh b s.1) = l + 1
    · have h3 := sh_3 hc.1
      obtain ⟨g1, g2⟩ := nx_go hT (by omega)
      obtain ⟨p1, -, -⟩ := hg (nx b n s.1, s.2) g1
      have hun : dLo b n fL l (k + 1) s = (if (fL (nx b n s.1, s.2)).2 = true then (if l = 2 then (((fL (nx b n s.1, s.2)).1.1, sh b s.1 :: (fL (nx b n s.1, s.2)).1.2.1, (fL (nx b n s.1, s.2)).1.2.2), true) else dLo b n fL l k ((fL (nx b n s.1, s.2)).1.1, sh b s.1 :: (fL (nx b n s.1, s.2)).1.2.1, (fL (nx b n s.1, s.2)).1.2.2)) else fL (nx b n s.1, s.2)) := by
        rw [dLo, if_pos hc]
      rw [hun] at hok ⊢
      have hI := hL (nx b n s.1, s.2) (d + 1) g1 h
      generalize fL (nx b n s.1, s.2) = r at *
      cases hr : r.2 with
      | false => rw [hr, if_neg (by decide), hr] at hok; cases hok
      | true =>
        rw [hr, if_pos rfl] at hok
        rw [if_pos rfl]
        obtain ⟨i1, i2⟩ := hI hr
        have i3 : Gd K (sh b s.1 :: r.1.2.1) (d + 1) := Gd_two i1 (sh_neg hc.1) (sh_c hc.1).2.2.2.2
        dsimp only at i2
        by_cases hl2 : l = 2
        · rw [if_pos hl2]
          refine ⟨i3, ?_⟩
          simp only [List.length_cons]
          omega
        · rw [if_neg hl2] at hok ⊢
          obtain ⟨j1, j2⟩ := ih (r.1.1, sh b s.1 :: r.1.2.1, r.1.2.2) d p1 i3 hok
          refine ⟨j1, ?_⟩
          simp only [List.length_cons] at j2
          omega
    · have hd : dLo b n fL l (k + 1) s = (s, true) := by rw [dLo, if_neg hc]
      rw [hd]
      exact ⟨h, Nat.le_refl _⟩
theorem dlp_d {b : Nat → Nat} {n K : Nat} : ∀ f, (∀ l op no s d, TkOk b n s.1 → Gd K s.2.1 d → ((dlp b n K f).1 l op no s).2 = true → GdR K s (d + 1) ((dlp b n K f).1 l op no s)) ∧ (∀ op no s d, TkOk b n s.1 → Gd K s.2.1 d → ((dlp b n K f).2 op no s).2 = true → GdR K s (d + 1) ((dlp b n K f).2 op no s)) := by
  intro f
  induction f with
  | zero => exact ⟨fun l op no s d _ _ h => (by cases h), fun op no s d _ _ h => (by cases h)⟩
  | succ f ih =>
    obtain ⟨iL, iP⟩ := ih
    refine ⟨fun l op no s d hT h => ?_, fun op no s d hT h => ?_⟩
    · show (dLv b n (dlp b n K f).1 (dlp b n K f).2 l op no s).2 = true → GdR K s (d + 1) (dLv b n (dlp b n K f).1 (dlp b n K f).2 l op no s)
      unfold dLv
      split
      · obtain ⟨g1, -, -⟩ := (dlp_g (b := b) (n := n) (K := K) f).1 (l + 1) op no s hT
        have hI := iL (l + 1) op no s d hT h
        split
        · next hok =>
          intro hok2
          obtain ⟨i1, i2⟩ := hI hok
          obtain ⟨j1, j2⟩ := dLo_d (l := l) (fL := (dlp b n K f).1 (l + 1) op no) (fun s hs => (dlp_g (b := b) (n := n) (K := K) f).1 (l + 1) op no s hs) (fun s d hs hd => iL (l + 1) op no s d hs hd) 96 _ d g1 i1 hok2
          exact ⟨j1, by omega⟩
        · exact hI
      · exact iP op no s d hT h
    · show (dPc b n K (dlp b n K f).1 (dlp b n K f).2 op no s).2 = true → GdR K s (d + 1) (dPc b n K (dlp b n K f).1 (dlp b n K f).2 op no s)
      unfold dPc
      split
      · next q =>
        intro _
        have hdg := hT.2.2.2.2.2.2.2.1 q
        have hlt := (hT.2.2.2.1 (by omega)).2
        have hdv : dv b s.1.2.1 (s.1.2.2 - s.1.2.1) ≤ 9999 := dv_4 hdg.1 (fun j j1 j2 => (hdg.2 j j1 (by omega)).2)
        refine ⟨Gd_op h (nI_pos' (by omega)) (nmok_v hdv), ?_⟩
        simp only [List.length_cons]
        omega
      · split
        · split
          · next q =>
            intro _
            have hx : 0 ≤ 10000 + nmS K (b s.1.2.1) ∧ nmok K (10000 + nmS K (b s.1.2.1)) := by
              rcases nmS_c K (b s.1.2.1) with e | ⟨i, hi, e⟩
              · rw [e] at q; exact absurd q.2 (by decide)
              · have hi3 : i < 3 := by split at hi <;> omega
                rw [e]
                refine ⟨by rw [m10k]; exact nI_pos' (by omega), fun j ej hj => ?_⟩
                rw [m10k, m10k] at ej
                have := (nI_eq (by omega) (by omega)).mp ej
                have : i = j := by omega
                rw [← this]; exact hi
            refine ⟨Gd_op h hx.1 hx.2, ?_⟩
            simp only [List.length_cons]
            omega
          · intro x; cases x
        · split
          · next q =>
            obtain ⟨g1, -⟩ := nx_go hT (by omega)
            have hI := iP op (no + 1) (nx b n s.1, s.2) d g1 h
            generalize (dlp b n K f).2 op (no + 1) (nx b n s.1, s.2) = r at *
            split
            · next hok =>
              intro _
              obtain ⟨i1, i2⟩ := hI hok
              refine ⟨Gd_not i1, ?_⟩
              simp only [List.length_cons]
              dsimp only at i2
              omega
            · next hok => intro x; exact absurd x hok
          · split
            · next q =>
              obtain ⟨g1, -⟩ := nx_go hT (by omega)
              have hI := iL 0 (op + 1) no (nx b n s.1, s.2) d g1 h
              generalize (dlp b n K f).1 0 (op + 1) no (nx b n s.1, s.2) = r at *
              split
              · next hok =>
                obtain ⟨i1, i2⟩ := hI hok
                split
                · intro _; exact ⟨i1, i2⟩
                · intro x; cases x
              · next hok => intro x; exact absurd x hok
            · intro x; cases x
/-- of a text that stands: its codes work out to one number -/
theorem rd_ok {b : Nat → Nat} {n K : Nat} {c : List Int32} {o : Nat} (h : rdP b n = .inr (K, c, o)) : Gd K c 1 ∧ o ≤ c.length := by
  unfold rdP at h
  obtain ⟨hT1, -⟩ := nx_ok (b := b) (n := n) (T := (0, 0, 0)) (show 0 ≤ n by omega)
  generalize nx b n (0, 0, 0) = T1 at *
  cases hk : kwT b T1 with
  | none => rw [hk] at h; cases h
  | some K' =>
    rw [hk] at h
    dsimp only at h
    obtain ⟨hK, hT11⟩ := kw_lt hk
    obtain ⟨g1, -⟩ := nx_go hT1 (by omega)
    have hI := (dlp_d (b := b) (n := n) (K := K') 100).1 0 0 0 (nx b n T1, [], 0) 0 g1 ⟨rfl, fun x hx => by cases hx⟩
    generalize (dlp b n K' 100).1 0 0 0 (nx b n T1, [], 0) = r at *
    split at h
    · next hc =>
      have he := Sum.inr.inj h
      have hK' : K' = K := congrArg Prod.fst he
      have hco : r.1.2 = (c, o) := congrArg Prod.snd he
      subst hK'
      obtain ⟨i1, i2⟩ := hI hc.1
      rw [hco] at i1 i2
      simp only [List.length_nil] at i2
      exact ⟨i1, by omega⟩
    · cases h
