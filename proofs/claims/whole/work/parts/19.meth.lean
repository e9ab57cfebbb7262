theorem dX10_keepHome_0 : am_at cX10_keepHome 0 (.iload_n 1) 1 1 := by decide +kernel
theorem dX10_keepHome_1 : am_at cX10_keepHome 1 (.iconst 1) 1 2 := by decide +kernel
theorem dX10_keepHome_2 : am_at cX10_keepHome 2 (.bipush 30) 2 4 := by decide +kernel
theorem dX10_keepHome_4 : am_at cX10_keepHome 4 (.invokestatic 85) 3 7 := by decide +kernel
theorem dX10_keepHome_7 : am_at cX10_keepHome 7 (.ifCond .ne 6) 3 10 := by decide +kernel
theorem dX10_keepHome_10 : am_at cX10_keepHome 10 (.ldc 93) 2 12 := by decide +kernel
theorem dX10_keepHome_12 : am_at cX10_keepHome 12 (.ireturn) 1 13 := by decide +kernel
theorem dX10_keepHome_13 : am_at cX10_keepHome 13 (.aload_n 0) 1 14 := by decide +kernel
theorem dX10_keepHome_14 : am_at cX10_keepHome 14 (.invokevirtual 183) 3 17 := by decide +kernel
theorem dX10_keepHome_17 : am_at cX10_keepHome 17 (.iconst (-1)) 1 18 := by decide +kernel
theorem dX10_keepHome_18 : am_at cX10_keepHome 18 (.istore_n 2) 1 19 := by decide +kernel
theorem dX10_keepHome_19 : am_at cX10_keepHome 19 (.iconst 0) 1 20 := by decide +kernel
theorem dX10_keepHome_20 : am_at cX10_keepHome 20 (.istore_n 3) 1 21 := by decide +kernel
theorem dX10_keepHome_21 : am_at cX10_keepHome 21 (.iconst 0) 1 22 := by decide +kernel
theorem dX10_keepHome_22 : am_at cX10_keepHome 22 (.istore 4) 2 24 := by decide +kernel
theorem dX10_keepHome_24 : am_at cX10_keepHome 24 (.iload 4) 2 26 := by decide +kernel
theorem dX10_keepHome_26 : am_at cX10_keepHome 26 (.aload_n 0) 1 27 := by decide +kernel
theorem dX10_keepHome_27 : am_at cX10_keepHome 27 (.getfield 9) 3 30 := by decide +kernel
theorem dX10_keepHome_30 : am_at cX10_keepHome 30 (.iconst 1) 1 31 := by decide +kernel
theorem dX10_keepHome_31 : am_at cX10_keepHome 31 (.iaload) 1 32 := by decide +kernel
theorem dX10_keepHome_32 : am_at cX10_keepHome 32 (.if_icmp .ge 58) 3 35 := by decide +kernel
theorem dX10_keepHome_35 : am_at cX10_keepHome 35 (.aload_n 0) 1 36 := by decide +kernel
theorem dX10_keepHome_36 : am_at cX10_keepHome 36 (.iload_n 1) 1 37 := by decide +kernel
theorem dX10_keepHome_37 : am_at cX10_keepHome 37 (.iload 4) 2 39 := by decide +kernel
theorem dX10_keepHome_39 : am_at cX10_keepHome 39 (.invokevirtual 180) 3 42 := by decide +kernel
theorem dX10_keepHome_42 : am_at cX10_keepHome 42 (.istore 5) 2 44 := by decide +kernel
theorem dX10_keepHome_44 : am_at cX10_keepHome 44 (.aload_n 0) 1 45 := by decide +kernel
theorem dX10_keepHome_45 : am_at cX10_keepHome 45 (.invokevirtual 186) 3 48 := by decide +kernel
theorem dX10_keepHome_48 : am_at cX10_keepHome 48 (.istore 6) 2 50 := by decide +kernel
theorem dX10_keepHome_50 : am_at cX10_keepHome 50 (.aload_n 0) 1 51 := by decide +kernel
theorem dX10_keepHome_51 : am_at cX10_keepHome 51 (.invokevirtual 195) 3 54 := by decide +kernel
theorem dX10_keepHome_54 : am_at cX10_keepHome 54 (.iload_n 2) 1 55 := by decide +kernel
theorem dX10_keepHome_55 : am_at cX10_keepHome 55 (.ifCond .lt 9) 3 58 := by decide +kernel
theorem dX10_keepHome_58 : am_at cX10_keepHome 58 (.iload 6) 2 60 := by decide +kernel
theorem dX10_keepHome_60 : am_at cX10_keepHome 60 (.iload_n 3) 1 61 := by decide +kernel
theorem dX10_keepHome_61 : am_at cX10_keepHome 61 (.if_icmp .le 8) 3 64 := by decide +kernel
theorem dX10_keepHome_64 : am_at cX10_keepHome 64 (.iload 4) 2 66 := by decide +kernel
theorem dX10_keepHome_66 : am_at cX10_keepHome 66 (.goto 4) 3 69 := by decide +kernel
theorem dX10_keepHome_69 : am_at cX10_keepHome 69 (.iload_n 2) 1 70 := by decide +kernel
theorem dX10_keepHome_70 : am_at cX10_keepHome 70 (.istore_n 2) 1 71 := by decide +kernel
theorem dX10_keepHome_71 : am_at cX10_keepHome 71 (.iload_n 2) 1 72 := by decide +kernel
theorem dX10_keepHome_72 : am_at cX10_keepHome 72 (.iload 4) 2 74 := by decide +kernel
theorem dX10_keepHome_74 : am_at cX10_keepHome 74 (.if_icmp .ne 8) 3 77 := by decide +kernel
theorem dX10_keepHome_77 : am_at cX10_keepHome 77 (.iload 6) 2 79 := by decide +kernel
theorem dX10_keepHome_79 : am_at cX10_keepHome 79 (.goto 4) 3 82 := by decide +kernel
theorem dX10_keepHome_82 : am_at cX10_keepHome 82 (.iload_n 3) 1 83 := by decide +kernel
theorem dX10_keepHome_83 : am_at cX10_keepHome 83 (.istore_n 3) 1 84 := by decide +kernel
theorem dX10_keepHome_84 : am_at cX10_keepHome 84 (.iinc 4 1) 3 87 := by decide +kernel
theorem dX10_keepHome_87 : am_at cX10_keepHome 87 (.goto (-63)) 3 90 := by decide +kernel
theorem dX10_keepHome_90 : am_at cX10_keepHome 90 (.iload_n 2) 1 91 := by decide +kernel
theorem dX10_keepHome_91 : am_at cX10_keepHome 91 (.invokestatic 158) 3 94 := by decide +kernel
theorem dX10_keepHome_94 : am_at cX10_keepHome 94 (.ireturn) 1 95 := by decide +kernel
def fxX10_keepHome_b83 (k24 : Option Nat → Int32 → Int32 → Int32 → Int32 → am_H → Option (Int32 × am_H)) (l0 : Option Nat) (l1 : Int32) (l2 : Int32) (l4 : Int32) (s0 : Int32) (h : am_H) : Option (Int32 × am_H) := am_lt s0 (fun x22 => am_lt (l4 + 1) (fun x23 => k24 l0 l1 l2 x22 x23 h))
set_option maxRecDepth 100000 in
theorem sxX10_keepHome_b83 {xs : List Int32} (k24 : Option Nat → Int32 → Int32 → Int32 → Int32 → am_H → Option (Int32 × am_H)) (hk24 : ∀ (l0 : Option Nat) (l1 : Int32) (l2 : Int32) (l3 : Int32) (l4 : Int32) (h : am_H), am_Sm xs am_ci mX10_keepHome 5 0 0 24 [some (am_R l0), some (am_I l1), some (am_I l2), some (am_I l3), some (am_I l4), none, none] [] h (k24 l0 l1 l2 l3 l4 h)) (l0 : Option Nat) (l1 : Int32) (l2 : Int32) (l4 : Int32) (s0 : Int32) (h : am_H) : am_Sm xs am_ci mX10_keepHome 5 0 0 83 [some (am_R l0), some (am_I l1), some (am_I l2), none, some (am_I l4), none, none] [am_I s0] h (fxX10_keepHome_b83 k24 l0 l1 l2 l4 s0 h) := by
  unfold fxX10_keepHome_b83
  refine am_istore_n (LL := fun y9 => [some (am_R l0), some (am_I l1), some (am_I l2), some (am_I y9), some (am_I l4), none, none]) dX10_keepHome_83 (by decide) (fun _ => rfl) (fun x22 => ?_)
  refine am_iinc (v := 1) (LL := fun y9 => [some (am_R l0), some (am_I l1), some (am_I l2), some (am_I x22), some (am_I y9), none, none]) dX10_keepHome_84 (by decide) rfl (by decide) (fun _ => rfl) (fun x23 => ?_)
  refine am_goto (tgt := 24) dX10_keepHome_87 (by decide) ?_
  exact am_weak (hk24 l0 l1 l2 x22 x23 h) ⟨rfl, ⟨rfl, ⟨rfl, ⟨rfl, ⟨rfl, trivial⟩⟩⟩⟩⟩ (Nat.le_refl _) (Nat.le_refl _)
def fxX10_keepHome_b70 (k24 : Option Nat → Int32 → Int32 → Int32 → Int32 → am_H → Option (Int32 × am_H)) (l0 : Option Nat) (l1 : Int32) (l3 : Int32) (l4 : Int32) (l6 : Int32) (s0 : Int32) (h : am_H) : Option (Int32 × am_H) := am_lt s0 (fun x20 => if x20 = l4 then (fxX10_keepHome_b83 k24 l0 l1 x20 l4 l6 h) else (fxX10_keepHome_b83 k24 l0 l1 x20 l4 l3 h))
set_option maxRecDepth 100000 in
theorem sxX10_keepHome_b70 {xs : List Int32} (k24 : Option Nat → Int32 → Int32 → Int32 → Int32 → am_H → Option (Int32 × am_H)) (hk24 : ∀ (l0 : Option Nat) (l1 : Int32) (l2 : Int32) (l3 : Int32) (l4 : Int32) (h : am_H), am_Sm xs am_ci mX10_keepHome 5 0 0 24 [some (am_R l0), some (am_I l1), some (am_I l2), some (am_I l3), some (am_I l4), none, none] [] h (k24 l0 l1 l2 l3 l4 h)) (l0 : Option Nat) (l1 : Int32) (l3 : Int32) (l4 : Int32) (l6 : Int32) (s0 : Int32) (h : am_H) : am_Sm xs am_ci mX10_keepHome 5 0 0 70 [some (am_R l0), some (am_I l1), none, some (am_I l3), some (am_I l4), none, some (am_I l6)] [am_I s0] h (fxX10_keepHome_b70 k24 l0 l1 l3 l4 l6 s0 h) := by
  unfold fxX10_keepHome_b70
  refine am_istore_n (LL := fun y9 => [some (am_R l0), some (am_I l1), some (am_I y9), some (am_I l3), some (am_I l4), none, some (am_I l6)]) dX10_keepHome_70 (by decide) (fun _ => rfl) (fun x20 => ?_)
  refine am_iload_n dX10_keepHome_71 rfl ?_
  refine am_iload dX10_keepHome_72 rfl ?_
  refine am_icmp_ne (tgt := 82) dX10_keepHome_74 (by decide) (fun c21 => ?_) (fun c21 => ?_)
  · refine am_iload_n dX10_keepHome_82 rfl ?_
    exact am_weak (sxX10_keepHome_b83 k24 hk24 l0 l1 x20 l4 l3 h) ⟨rfl, ⟨rfl, ⟨rfl, ⟨rfl, trivial⟩⟩⟩⟩ (Nat.le_refl _) (Nat.le_refl _)
  refine am_iload dX10_keepHome_77 rfl ?_
  refine am_goto (tgt := 83) dX10_keepHome_79 (by decide) ?_
  exact am_weak (sxX10_keepHome_b83 k24 hk24 l0 l1 x20 l4 l6 h) ⟨rfl, ⟨rfl, ⟨rfl, ⟨rfl, trivial⟩⟩⟩⟩ (Nat.le_refl _) (Nat.le_refl _)
def fxX10_keepHome_b64 (k24 : Option Nat → Int32 → Int32 → Int32 → Int32 → am_H → Option (Int32 × am_H)) (l0 : Option Nat) (l1 : Int32) (l3 : Int32) (l4 : Int32) (l6 : Int32) (h : am_H) : Option (Int32 × am_H) := fxX10_keepHome_b70 k24 l0 l1 l3 l4 l6 l4 h
set_option maxRecDepth 100000 in
theorem sxX10_keepHome_b64 {xs : List Int32} (k24 : Option Nat → Int32 → Int32 → Int32 → Int32 → am_H → Option (Int32 × am_H)) (hk24 : ∀ (l0 : Option Nat) (l1 : Int32) (l2 : Int32) (l3 : Int32) (l4 : Int32) (h : am_H), am_Sm xs am_ci mX10_keepHome 5 0 0 24 [some (am_R l0), some (am_I l1), some (am_I l2), some (am_I l3), some (am_I l4), none, none] [] h (k24 l0 l1 l2 l3 l4 h)) (l0 : Option Nat) (l1 : Int32) (l3 : Int32) (l4 : Int32) (l6 : Int32) (h : am_H) : am_Sm xs am_ci mX10_keepHome 5 0 0 64 [some (am_R l0), some (am_I l1), none, some (am_I l3), some (am_I l4), none, some (am_I l6)] [] h (fxX10_keepHome_b64 k24 l0 l1 l3 l4 l6 h) := by
  unfold fxX10_keepHome_b64
  refine am_iload dX10_keepHome_64 rfl ?_
  refine am_goto (tgt := 70) dX10_keepHome_66 (by decide) ?_
  exact am_weak (sxX10_keepHome_b70 k24 hk24 l0 l1 l3 l4 l6 l4 h) ⟨rfl, ⟨rfl, ⟨rfl, ⟨rfl, ⟨rfl, trivial⟩⟩⟩⟩⟩ (Nat.le_refl _) (Nat.le_refl _)
def fxX10_keepHome_b24 : Nat → Option Nat → Int32 → Int32 → Int32 → Int32 → am_H → Option (Int32 × am_H)
  | 0, _, _, _, _, _, _ => none
  | n + 1, l0, l1, l2, l3, l4, h => am_gd (am_ob h l0 10) (am_gd (am_ix h (am_gr h l0 0) 0 (1 : Int32)) (if (am_gi h (am_gr h l0 0) (1 : Int32).toNatClampNeg) ≤ l4 then (am_bd (fxX10_told0 l2 h) (fun r8 h9 => some (r8, h9))) else (am_gd (am_ob h l0 10) (am_bd (fxX10_goesOn l0 l1 l4 h) (fun r10 h11 => am_lt r10 (fun x12 => am_gd (am_ob h11 l0 10) (am_bd (fxX10_bestOfAll l0 h11) (fun r13 h14 => am_lt r13 (fun x15 => am_gd (am_ob h14 l0 10) (am_bd (fxX10_putsBack l0 h14) (fun _ h16 => if l2 < 0 then (fxX10_keepHome_b64 (fxX10_keepHome_b24 n) l0 l1 l3 l4 x15 h16) else (if x15 ≤ l3 then (fxX10_keepHome_b70 (fxX10_keepHome_b24 n) l0 l1 l3 l4 x15 l2 h16) else (fxX10_keepHome_b64 (fxX10_keepHome_b24 n) l0 l1 l3 l4 x15 h16)))))))))))))
set_option maxRecDepth 100000 in
theorem sxX10_keepHome_b24 {xs : List Int32} : ∀ (n : Nat) (l0 : Option Nat) (l1 : Int32) (l2 : Int32) (l3 : Int32) (l4 : Int32) (h : am_H), am_Sm xs am_ci mX10_keepHome 5 0 0 24 [some (am_R l0), some (am_I l1), some (am_I l2), some (am_I l3), some (am_I l4), none, none] [] h (fxX10_keepHome_b24 n l0 l1 l2 l3 l4 h) := by
  intro n
  induction n with
  | zero => intros; exact am_none
  | succ n ih =>
    intro l0 l1 l2 l3 l4 h
    rw [fxX10_keepHome_b24]
    refine am_iload dX10_keepHome_24 rfl ?_
    refine am_aload_n dX10_keepHome_26 rfl ?_
    refine am_getR dX10_keepHome_27 fk_RX10_9 rfl ?_
    refine am_iconst (v := 1) dX10_keepHome_30 (by decide) ?_
    refine am_iald dX10_keepHome_31 ?_
    refine am_icmp_ge (tgt := 90) dX10_keepHome_32 (by decide) (fun c19 => ?_) (fun c19 => ?_)
    · refine am_iload_n dX10_keepHome_90 rfl ?_
      refine am_callS (cvj := am_ci) (mtj := mX10_told0) (dj := 0) (nj := 1) (rcj := 0) (rsj := 0) (rc' := 0) (rs' := 0) (st' := fun a9 => (am_I a9 :: [])) [am_I l2] [] dX10_keepHome_91 okX10_told0 lk_RX10_158 (fun zA zH zE => txX10_told0 l2 h zA zH zE) rfl (fun _ => rfl) (by decide) rfl (Nat.le_of_ble_eq_true rfl) (by decide) (by decide) (fun r8 h9 => ?_)
      exact am_iret dX10_keepHome_94 rfl rfl
    refine am_aload_n dX10_keepHome_35 rfl ?_
    refine am_iload_n dX10_keepHome_36 rfl ?_
    refine am_iload dX10_keepHome_37 rfl ?_
    refine am_callV (cvj := am_ci) (mtj := mX10_goesOn) (dj := 4) (nj := 2) (rcj := 0) (rsj := 0) (rc' := 0) (rs' := 0) (ci := 10) (st' := fun a9 => (am_I a9 :: [])) ⟨_, rfl, rfl⟩ [am_I l1, am_I l4] [] dX10_keepHome_39 okX10_goesOn lk_RX10_180 (fun zA zH zE => txX10_goesOn l0 l1 l4 h zA zH zE) rfl (fun _ => rfl) (by decide) rfl (Nat.le_of_ble_eq_true rfl) (by decide) (by decide) (fun r10 h11 => ?_)
    refine am_istore (LL := fun y9 => [some (am_R l0), some (am_I l1), some (am_I l2), some (am_I l3), some (am_I l4), some (am_I y9), none]) dX10_keepHome_42 (by decide) (fun _ => rfl) (fun x12 => ?_)
    refine am_aload_n dX10_keepHome_44 rfl ?_
    refine am_callV (cvj := am_ci) (mtj := mX10_bestOfAll) (dj := 4) (nj := 0) (rcj := 0) (rsj := 0) (rc' := 0) (rs' := 0) (ci := 10) (st' := fun a9 => (am_I a9 :: [])) ⟨_, rfl, rfl⟩ [] [] dX10_keepHome_45 okX10_bestOfAll lk_RX10_186 (fun zA zH zE => txX10_bestOfAll l0 h11 zA zH zE) rfl (fun _ => rfl) (by decide) rfl (Nat.le_of_ble_eq_true rfl) (by decide) (by decide) (fun r13 h14 => ?_)
    refine am_istore (LL := fun y9 => [some (am_R l0), some (am_I l1), some (am_I l2), some (am_I l3), some (am_I l4), some (am_I x12), some (am_I y9)]) dX10_keepHome_48 (by decide) (fun _ => rfl) (fun x15 => ?_)
    refine am_aload_n dX10_keepHome_50 rfl ?_
    refine am_callV (cvj := am_cu) (mtj := mX10_putsBack) (dj := 0) (nj := 0) (rcj := 0) (rsj := 0) (rc' := 0) (rs' := 0) (ci := 10) (st' := fun _ => []) ⟨_, rfl, rfl⟩ [] [] dX10_keepHome_51 okX10_putsBack lk_RX10_195 (fun zA zH zE => txX10_putsBack l0 h14 zA zH zE) rfl (fun _ => rfl) (by decide) rfl (Nat.le_of_ble_eq_true rfl) (by decide) (by decide) (fun _ h16 => ?_)
    refine am_iload_n dX10_keepHome_54 rfl ?_
    refine am_if_lt (tgt := 64) dX10_keepHome_55 (by decide) (fun c18 => ?_) (fun c18 => ?_)
    · exact am_weak (sxX10_keepHome_b64 (fxX10_keepHome_b24 n) ih l0 l1 l3 l4 x15 h16) ⟨rfl, ⟨rfl, ⟨rfl, ⟨rfl, ⟨rfl, trivial⟩⟩⟩⟩⟩ (Nat.le_refl _) (Nat.le_refl _)
    refine am_iload dX10_keepHome_58 rfl ?_
    refine am_iload_n dX10_keepHome_60 rfl ?_
    refine am_icmp_le (tgt := 69) dX10_keepHome_61 (by decide) (fun c17 => ?_) (fun c17 => ?_)
    · refine am_iload_n dX10_keepHome_69 rfl ?_
      exact am_weak (sxX10_keepHome_b70 (fxX10_keepHome_b24 n) ih l0 l1 l3 l4 x15 l2 h16) ⟨rfl, ⟨rfl, ⟨rfl, ⟨rfl, ⟨rfl, trivial⟩⟩⟩⟩⟩ (Nat.le_refl _) (Nat.le_refl _)
    exact am_weak (sxX10_keepHome_b64 (fxX10_keepHome_b24 n) ih l0 l1 l3 l4 x15 h16) ⟨rfl, ⟨rfl, ⟨rfl, ⟨rfl, ⟨rfl, trivial⟩⟩⟩⟩⟩ (Nat.le_refl _) (Nat.le_refl _)
def fxX10_keepHome (l0 : Option Nat) (l1 : Int32) (h : am_H) : Option (Int32 × am_H) := am_bd (fxX10_in l1 (1 : Int32) (30 : Int32) h) (fun r1 h2 => if r1 = 0 then (some ((-1000000001 : Int32), h2)) else (am_gd (am_ob h2 l0 10) (am_bd (fxX10_thinks l0 h2) (fun _ h3 => am_lt (-1 : Int32) (fun x4 => am_lt (0 : Int32) (fun x5 => am_lt (0 : Int32) (fun x6 => fxX10_keepHome_b24 am_F l0 l1 x4 x5 x6 h3)))))))
set_option maxRecDepth 100000 in
theorem sxX10_keepHome {xs : List Int32} (l0 : Option Nat) (l1 : Int32) (h : am_H) : am_Sm xs am_ci mX10_keepHome 5 0 0 0 [some (am_R l0), some (am_I l1), none, none, none, none, none] [] h (fxX10_keepHome l0 l1 h) := by
  unfold fxX10_keepHome
  refine am_iload_n dX10_keepHome_0 rfl ?_
  refine am_iconst (v := 1) dX10_keepHome_1 (by decide) ?_
  refine am_bipush (v := 30) dX10_keepHome_2 (by decide) ?_
  refine am_callS (cvj := am_ci) (mtj := mX10_in) (dj := 0) (nj := 3) (rcj := 0) (rsj := 0) (rc' := 0) (rs' := 0) (st' := fun a9 => (am_I a9 :: [])) [am_I l1, am_I (1 : Int32), am_I (30 : Int32)] [] dX10_keepHome_4 okX10_in lk_RX10_85 (fun zA zH zE => txX10_in l1 (1 : Int32) (30 : Int32) h zA zH zE) rfl (fun _ => rfl) (by decide) rfl (Nat.le_of_ble_eq_true rfl) (by decide) (by decide) (fun r1 h2 => ?_)
  refine am_if_ne (tgt := 13) dX10_keepHome_7 (by decide) (fun c7 => ?_) (fun c7 => ?_)
  · refine am_aload_n dX10_keepHome_13 rfl ?_
    refine am_callV (cvj := am_cu) (mtj := mX10_thinks) (dj := 0) (nj := 0) (rcj := 0) (rsj := 0) (rc' := 0) (rs' := 0) (ci := 10) (st' := fun _ => []) ⟨_, rfl, rfl⟩ [] [] dX10_keepHome_14 okX10_thinks lk_RX10_183 (fun zA zH zE => txX10_thinks l0 h2 zA zH zE) rfl (fun _ => rfl) (by decide) rfl (Nat.le_of_ble_eq_true rfl) (by decide) (by decide) (fun _ h3 => ?_)
    refine am_iconst (v := (-1)) dX10_keepHome_17 (by decide) ?_
    refine am_istore_n (LL := fun y9 => [some (am_R l0), some (am_I l1), some (am_I y9), none, none, none, none]) dX10_keepHome_18 (by decide) (fun _ => rfl) (fun x4 => ?_)
    refine am_iconst (v := 0) dX10_keepHome_19 (by decide) ?_
    refine am_istore_n (LL := fun y9 => [some (am_R l0), some (am_I l1), some (am_I x4), some (am_I y9), none, none, none]) dX10_keepHome_20 (by decide) (fun _ => rfl) (fun x5 => ?_)
    refine am_iconst (v := 0) dX10_keepHome_21 (by decide) ?_
    refine am_istore (LL := fun y9 => [some (am_R l0), some (am_I l1), some (am_I x4), some (am_I x5), some (am_I y9), none, none]) dX10_keepHome_22 (by decide) (fun _ => rfl) (fun x6 => ?_)
    exact am_weak (sxX10_keepHome_b24 am_F l0 l1 x4 x5 x6 h3) ⟨rfl, ⟨rfl, ⟨rfl, ⟨rfl, ⟨rfl, trivial⟩⟩⟩⟩⟩ (Nat.le_refl _) (Nat.le_refl _)
  refine am_ldc (v := (-1000000001)) dX10_keepHome_10 wd1060 ?_
  exact am_iret dX10_keepHome_12 rfl rfl
theorem txX10_keepHome {xs : List Int32} (l0 : Option Nat) (l1 : Int32) (h : am_H) (a : Int32) (h2 : am_H) (e : fxX10_keepHome l0 l1 h = some (a, h2)) : am_Ct xs mX10_keepHome 5 0 0 [am_R l0, am_I l1] h (fun v h3 => v = am_ci a ∧ h3 = h2) := am_meth okX10_keepHome (Nat.le_of_ble_eq_true rfl) rfl (sxX10_keepHome l0 l1 h) e
theorem dX10_fine_0 : am_at cX10_fine 0 (.aload_n 0) 1 1 := by decide +kernel
theorem dX10_fine_1 : am_at cX10_fine 1 (.iconst 2) 1 2 := by decide +kernel
theorem dX10_fine_2 : am_at cX10_fine 2 (.invokevirtual 125) 3 5 := by decide +kernel
theorem dX10_fine_5 : am_at cX10_fine 5 (.istore_n 1) 1 6 := by decide +kernel
theorem dX10_fine_6 : am_at cX10_fine 6 (.aload_n 0) 1 7 := by decide +kernel
theorem dX10_fine_7 : am_at cX10_fine 7 (.getfield 54) 3 10 := by decide +kernel
theorem dX10_fine_10 : am_at cX10_fine 10 (.iconst 0) 1 11 := by decide +kernel
theorem dX10_fine_11 : am_at cX10_fine 11 (.aload_n 0) 1 12 := by decide +kernel
theorem dX10_fine_12 : am_at cX10_fine 12 (.getfield 9) 3 15 := by decide +kernel
theorem dX10_fine_15 : am_at cX10_fine 15 (.iconst 2) 1 16 := by decide +kernel
theorem dX10_fine_16 : am_at cX10_fine 16 (.iaload) 1 17 := by decide +kernel
theorem dX10_fine_17 : am_at cX10_fine 17 (.iastore) 1 18 := by decide +kernel
theorem dX10_fine_18 : am_at cX10_fine 18 (.aload_n 0) 1 19 := by decide +kernel
theorem dX10_fine_19 : am_at cX10_fine 19 (.getfield 54) 3 22 := by decide +kernel
theorem dX10_fine_22 : am_at cX10_fine 22 (.iconst 1) 1 23 := by decide +kernel
theorem dX10_fine_23 : am_at cX10_fine 23 (.aload_n 0) 1 24 := by decide +kernel
theorem dX10_fine_24 : am_at cX10_fine 24 (.invokevirtual 189) 3 27 := by decide +kernel
theorem dX10_fine_27 : am_at cX10_fine 27 (.iastore) 1 28 := by decide +kernel
theorem dX10_fine_28 : am_at cX10_fine 28 (.iload_n 1) 1 29 := by decide +kernel
theorem dX10_fine_29 : am_at cX10_fine 29 (.ifCond .ge 10) 3 32 := by decide +kernel
theorem dX10_fine_32 : am_at cX10_fine 32 (.aload_n 0) 1 33 := by decide +kernel
theorem dX10_fine_33 : am_at cX10_fine 33 (.invokevirtual 189) 3 36 := by decide +kernel
theorem dX10_fine_36 : am_at cX10_fine 36 (.goto 8) 3 39 := by decide +kernel
theorem dX10_fine_39 : am_at cX10_fine 39 (.aload_n 0) 1 40 := by decide +kernel
theorem dX10_fine_40 : am_at cX10_fine 40 (.iload_n 1) 1 41 := by decide +kernel
theorem dX10_fine_41 : am_at cX10_fine 41 (.invokevirtual 132) 3 44 := by decide +kernel
theorem dX10_fine_44 : am_at cX10_fine 44 (.ireturn) 1 45 := by decide +kernel
def fxX10_fine (l0 : Option Nat) (h : am_H) : Option (Int32 × am_H) := am_gd (am_ob h l0 10) (am_bd (fxX10_counts l0 (2 : Int32) h) (fun r1 h2 => am_lt r1 (fun x3 => am_gd (am_ob h2 l0 10) (am_gd (am_ob h2 l0 10) (am_gd (am_ix h2 (am_gr h2 l0 0) 0 (2 : Int32)) (am_gd (am_ix h2 (am_gr h2 l0 25) 0 (0 : Int32)) (am_lt (am_si h2 (am_gr h2 l0 25) (0 : Int32).toNatClampNeg (am_gi h2 (am_gr h2 l0 0) (2 : Int32).toNatClampNeg)) (fun h4 => am_gd (am_ob h4 l0 10) (am_gd (am_ob h4 l0 10) (am_bd (fxX10_lostMany l0 h4) (fun r5 h6 => am_gd (am_ix h6 (am_gr h4 l0 25) 0 (1 : Int32)) (am_lt (am_si h6 (am_gr h4 l0 25) (1 : Int32).toNatClampNeg r5) (fun h7 => if 0 ≤ x3 then (am_gd (am_ob h7 l0 10) (am_bd (fxX10_worksOut l0 x3 h7) (fun r8 h9 => some (r8, h9)))) else (am_gd (am_ob h7 l0 10) (am_bd (fxX10_lostMany l0 h7) (fun r10 h11 => some (r10, h11)))))))))))))))))
set_option maxRecDepth 100000 in
theorem sxX10_fine {xs : List Int32} (l0 : Option Nat) (h : am_H) : am_Sm xs am_ci mX10_fine 2 0 0 0 [some (am_R l0), none] [] h (fxX10_fine l0 h) := by
  unfold fxX10_fine
  refine am_aload_n dX10_fine_0 rfl ?_
  refine am_iconst (v := 2) dX10_fine_1 (by decide) ?_
  refine am_callV (cvj := am_ci) (mtj := mX10_counts) (dj := 0) (nj := 1) (rcj := 0) (rsj := 0) (rc' := 0) (rs' := 0) (ci := 10) (st' := fun a9 => (am_I a9 :: [])) ⟨_, rfl, rfl⟩ [am_I (2 : Int32)] [] dX10_fine_2 okX10_counts lk_RX10_125 (fun zA zH zE => txX10_counts l0 (2 : Int32) h zA zH zE) rfl (fun _ => rfl) (by decide) rfl (Nat.le_of_ble_eq_true rfl) (by decide) (by decide) (fun r1 h2 => ?_)
  refine am_istore_n (LL := fun y9 => [some (am_R l0), some (am_I y9)]) dX10_fine_5 (by decide) (fun _ => rfl) (fun x3 => ?_)
  refine am_aload_n dX10_fine_6 rfl ?_
  refine am_getR dX10_fine_7 fk_RX10_54 rfl ?_
  refine am_iconst (v := 0) dX10_fine_10 (by decide) ?_
  refine am_aload_n dX10_fine_11 rfl ?_
  refine am_getR dX10_fine_12 fk_RX10_9 rfl ?_
  refine am_iconst (v := 2) dX10_fine_15 (by decide) ?_
  refine am_iald dX10_fine_16 ?_
  refine am_iast dX10_fine_17 (fun h4 => ?_)
  refine am_aload_n dX10_fine_18 rfl ?_
  refine am_getR dX10_fine_19 fk_RX10_54 rfl ?_
  refine am_iconst (v := 1) dX10_fine_22 (by decide) ?_
  refine am_aload_n dX10_fine_23 rfl ?_
  refine am_callV (cvj := am_ci) (mtj := mX10_lostMany) (dj := 1) (nj := 0) (rcj := 0) (rsj := 0) (rc' := 0) (rs' := 0) (ci := 10) (st' := fun a9 => (am_I a9 :: [am_I (1 : Int32), am_R (am_gr h4 l0 25)])) ⟨_, rfl, rfl⟩ [] [am_I (1 : Int32), am_R (am_gr h4 l0 25)] dX10_fine_24 okX10_lostMany lk_RX10_189 (fun zA zH zE => txX10_lostMany l0 h4 zA zH zE) rfl (fun _ => rfl) (by decide) rfl (Nat.le_of_ble_eq_true rfl) (by decide) (by decide) (fun r5 h6 => ?_)
  refine am_iast dX10_fine_27 (fun h7 => ?_)
  refine am_iload_n dX10_fine_28 rfl ?_
  refine am_if_ge (tgt := 39) dX10_fine_29 (by decide) (fun c12 => ?_) (fun c12 => ?_)
  · refine am_aload_n dX10_fine_39 rfl ?_
    refine am_iload_n dX10_fine_40 rfl ?_
    refine am_callV (cvj := am_ci) (mtj := mX10_worksOut) (dj := 1) (nj := 1) (rcj := 0) (rsj := 0) (rc' := 0) (rs' := 0) (ci := 10) (st' := fun a9 => (am_I a9 :: [])) ⟨_, rfl, rfl⟩ [am_I x3] [] dX10_fine_41 okX10_worksOut lk_RX10_132 (fun zA zH zE => txX10_worksOut l0 x3 h7 zA zH zE) rfl (fun _ => rfl) (by decide) rfl (Nat.le_of_ble_eq_true rfl) (by decide) (by decide) (fun r8 h9 => ?_)
    exact am_iret dX10_fine_44 rfl rfl
  refine am_aload_n dX10_fine_32 rfl ?_
  refine am_callV (cvj := am_ci) (mtj := mX10_lostMany) (dj := 1) (nj := 0) (rcj := 0) (rsj := 0) (rc' := 0) (rs' := 0) (ci := 10) (st' := fun a9 => (am_I a9 :: [])) ⟨_, rfl, rfl⟩ [] [] dX10_fine_33 okX10_lostMany lk_RX10_189 (fun zA zH zE => txX10_lostMany l0 h7 zA zH zE) rfl (fun _ => rfl) (by decide) rfl (Nat.le_of_ble_eq_true rfl) (by decide) (by decide) (fun r10 h11 => ?_)
  refine am_goto (tgt := 44) dX10_fine_36 (by decide) ?_
  exact am_iret dX10_fine_44 rfl rfl
theorem txX10_fine {xs : List Int32} (l0 : Option Nat) (h : am_H) (a : Int32) (h2 : am_H) (e : fxX10_fine l0 h = some (a, h2)) : am_Ct xs mX10_fine 2 0 0 [am_R l0] h (fun v h3 => v = am_ci a ∧ h3 = h2) := am_meth okX10_fine (Nat.le_of_ble_eq_true rfl) rfl (sxX10_fine l0 h) e
theorem dX10_isWord_0 : am_at cX10_isWord 0 (.iload_n 0) 1 1 := by decide +kernel
theorem dX10_isWord_1 : am_at cX10_isWord 1 (.iconst 0) 1 2 := by decide +kernel
theorem dX10_isWord_2 : am_at cX10_isWord 2 (.iconst 4) 1 3 := by decide +kernel
theorem dX10_isWord_3 : am_at cX10_isWord 3 (.invokestatic 85) 3 6 := by decide +kernel
theorem dX10_isWord_6 : am_at cX10_isWord 6 (.ireturn) 1 7 := by decide +kernel
def fxX10_isWord (l0 : Int32) (h : am_H) : Option (Int32 × am_H) := am_bd (fxX10_in l0 (0 : Int32) (4 : Int32) h) (fun r1 h2 => am_gd (am_bz r1) (some (r1, h2)))
set_option maxRecDepth 100000 in
theorem sxX10_isWord {xs : List Int32} (l0 : Int32) (h : am_H) : am_Sm xs am_ci mX10_isWord 1 0 0 0 [some (am_I l0)] [] h (fxX10_isWord l0 h) := by
  unfold fxX10_isWord
  refine am_iload_n dX10_isWord_0 rfl ?_
  refine am_iconst (v := 0) dX10_isWord_1 (by decide) ?_
  refine am_iconst (v := 4) dX10_isWord_2 (by decide) ?_
  refine am_callS (cvj := am_ci) (mtj := mX10_in) (dj := 0) (nj := 3) (rcj := 0) (rsj := 0) (rc' := 0) (rs' := 0) (st' := fun a9 => (am_I a9 :: [])) [am_I l0, am_I (0 : Int32), am_I (4 : Int32)] [] dX10_isWord_3 okX10_in lk_RX10_85 (fun zA zH zE => txX10_in l0 (0 : Int32) (4 : Int32) h zA zH zE) rfl (fun _ => rfl) (by decide) rfl (Nat.le_of_ble_eq_true rfl) (by decide) (by decide) (fun r1 h2 => ?_)
  exact am_zret dX10_isWord_6 rfl rfl
theorem txX10_isWord {xs : List Int32} (l0 : Int32) (h : am_H) (a : Int32) (h2 : am_H) (e : fxX10_isWord l0 h = some (a, h2)) : am_Ct xs mX10_isWord 1 0 0 [am_I l0] h (fun v h3 => v = am_ci a ∧ h3 = h2) := am_meth okX10_isWord (Nat.le_of_ble_eq_true rfl) rfl (sxX10_isWord l0 h) e
theorem dX10_worn_0 : am_at cX10_worn 0 (.iload_n 1) 1 1 := by decide +kernel
theorem dX10_worn_1 : am_at cX10_worn 1 (.invokestatic 198) 3 4 := by decide +kernel
theorem dX10_worn_4 : am_at cX10_worn 4 (.ifCond .eq 10) 3 7 := by decide +kernel
theorem dX10_worn_7 : am_at cX10_worn 7 (.iload_n 2) 1 8 := by decide +kernel
theorem dX10_worn_8 : am_at cX10_worn 8 (.invokestatic 198) 3 11 := by decide +kernel
theorem dX10_worn_11 : am_at cX10_worn 11 (.ifCond .ne 6) 3 14 := by decide +kernel
theorem dX10_worn_14 : am_at cX10_worn 14 (.ldc 93) 2 16 := by decide +kernel
theorem dX10_worn_16 : am_at cX10_worn 16 (.ireturn) 1 17 := by decide +kernel
theorem dX10_worn_17 : am_at cX10_worn 17 (.aload_n 0) 1 18 := by decide +kernel
theorem dX10_worn_18 : am_at cX10_worn 18 (.getfield 9) 3 21 := by decide +kernel
theorem dX10_worn_21 : am_at cX10_worn 21 (.iconst 4) 1 22 := by decide +kernel
theorem dX10_worn_22 : am_at cX10_worn 22 (.iaload) 1 23 := by decide +kernel
theorem dX10_worn_23 : am_at cX10_worn 23 (.bipush 10) 2 25 := by decide +kernel
theorem dX10_worn_25 : am_at cX10_worn 25 (.if_icmp .ne 6) 3 28 := by decide +kernel
theorem dX10_worn_28 : am_at cX10_worn 28 (.ldc 94) 2 30 := by decide +kernel
theorem dX10_worn_30 : am_at cX10_worn 30 (.ireturn) 1 31 := by decide +kernel
theorem dX10_worn_31 : am_at cX10_worn 31 (.aload_n 0) 1 32 := by decide +kernel
theorem dX10_worn_32 : am_at cX10_worn 32 (.getfield 9) 3 35 := by decide +kernel
theorem dX10_worn_35 : am_at cX10_worn 35 (.bipush 6) 2 37 := by decide +kernel
theorem dX10_worn_37 : am_at cX10_worn 37 (.aload_n 0) 1 38 := by decide +kernel
theorem dX10_worn_38 : am_at cX10_worn 38 (.getfield 9) 3 41 := by decide +kernel
theorem dX10_worn_41 : am_at cX10_worn 41 (.iconst 4) 1 42 := by decide +kernel
theorem dX10_worn_42 : am_at cX10_worn 42 (.iaload) 1 43 := by decide +kernel
theorem dX10_worn_43 : am_at cX10_worn 43 (.iadd) 1 44 := by decide +kernel
theorem dX10_worn_44 : am_at cX10_worn 44 (.bipush 10) 2 46 := by decide +kernel
theorem dX10_worn_46 : am_at cX10_worn 46 (.iload_n 1) 1 47 := by decide +kernel
theorem dX10_worn_47 : am_at cX10_worn 47 (.imul) 1 48 := by decide +kernel
theorem dX10_worn_48 : am_at cX10_worn 48 (.iload_n 2) 1 49 := by decide +kernel
theorem dX10_worn_49 : am_at cX10_worn 49 (.iadd) 1 50 := by decide +kernel
theorem dX10_worn_50 : am_at cX10_worn 50 (.iastore) 1 51 := by decide +kernel
theorem dX10_worn_51 : am_at cX10_worn 51 (.aload_n 0) 1 52 := by decide +kernel
theorem dX10_worn_52 : am_at cX10_worn 52 (.getfield 9) 3 55 := by decide +kernel
theorem dX10_worn_55 : am_at cX10_worn 55 (.iconst 4) 1 56 := by decide +kernel
theorem dX10_worn_56 : am_at cX10_worn 56 (.dup2) 1 57 := by decide +kernel
theorem dX10_worn_57 : am_at cX10_worn 57 (.iaload) 1 58 := by decide +kernel
theorem dX10_worn_58 : am_at cX10_worn 58 (.iconst 1) 1 59 := by decide +kernel
theorem dX10_worn_59 : am_at cX10_worn 59 (.iadd) 1 60 := by decide +kernel
theorem dX10_worn_60 : am_at cX10_worn 60 (.iastore) 1 61 := by decide +kernel
theorem dX10_worn_61 : am_at cX10_worn 61 (.aload_n 0) 1 62 := by decide +kernel
theorem dX10_worn_62 : am_at cX10_worn 62 (.getfield 9) 3 65 := by decide +kernel
theorem dX10_worn_65 : am_at cX10_worn 65 (.iconst 4) 1 66 := by decide +kernel
theorem dX10_worn_66 : am_at cX10_worn 66 (.iaload) 1 67 := by decide +kernel
theorem dX10_worn_67 : am_at cX10_worn 67 (.ireturn) 1 68 := by decide +kernel
def fxX10_worn (l0 : Option Nat) (l1 : Int32) (l2 : Int32) (h : am_H) : Option (Int32 × am_H) := am_bd (fxX10_isWord l1 h) (fun r1 h2 => if r1 = 0 then (some ((-1000000001 : Int32), h2)) else (am_bd (fxX10_isWord l2 h2) (fun r3 h4 => if r3 = 0 then (some ((-1000000001 : Int32), h4)) else (am_gd (am_ob h4 l0 10) (am_gd (am_ix h4 (am_gr h4 l0 0) 0 (4 : Int32)) (if (am_gi h4 (am_gr h4 l0 0) (4 : Int32).toNatClampNeg) = (10 : Int32) then (some ((-1000000003 : Int32), h4)) else (am_gd (am_ob h4 l0 10) (am_gd (am_ob h4 l0 10) (am_gd (am_ix h4 (am_gr h4 l0 0) 0 (4 : Int32)) (am_gd (am_ix h4 (am_gr h4 l0 0) 0 ((6 : Int32) + (am_gi h4 (am_gr h4 l0 0) (4 : Int32).toNatClampNeg))) (am_lt (am_si h4 (am_gr h4 l0 0) ((6 : Int32) + (am_gi h4 (am_gr h4 l0 0) (4 : Int32).toNatClampNeg)).toNatClampNeg (((10 : Int32) * l1) + l2)) (fun h5 => am_gd (am_ob h5 l0 10) (am_gd (am_ix h5 (am_gr h5 l0 0) 0 (4 : Int32)) (am_gd (am_ix h5 (am_gr h5 l0 0) 0 (4 : Int32)) (am_lt (am_si h5 (am_gr h5 l0 0) (4 : Int32).toNatClampNeg ((am_gi h5 (am_gr h5 l0 0) (4 : Int32).toNatClampNeg) + (1 : Int32))) (fun h6 => am_gd (am_ob h6 l0 10) (am_gd (am_ix h6 (am_gr h6 l0 0) 0 (4 : Int32)) (some ((am_gi h6 (am_gr h6 l0 0) (4 : Int32).toNatClampNeg), h6)))))))))))))))))))
set_option maxRecDepth 100000 in
theorem sxX10_worn {xs : List Int32} (l0 : Option Nat) (l1 : Int32) (l2 : Int32) (h : am_H) : am_Sm xs am_ci mX10_worn 2 0 0 0 [some (am_R l0), some (am_I l1), some (am_I l2)] [] h (fxX10_worn l0 l1 l2 h) := by
  unfold fxX10_worn
  refine am_iload_n dX10_worn_0 rfl ?_
  refine am_callS (cvj := am_ci) (mtj := mX10_isWord) (dj := 1) (nj := 1) (rcj := 0) (rsj := 0) (rc' := 0) (rs' := 0) (st' := fun a9 => (am_I a9 :: [])) [am_I l1] [] dX10_worn_1 okX10_isWord lk_RX10_198 (fun zA zH zE => txX10_isWord l1 h zA zH zE) rfl (fun _ => rfl) (by decide) rfl (Nat.le_of_ble_eq_true rfl) (by decide) (by decide) (fun r1 h2 => ?_)
  refine am_if_eq (tgt := 14) dX10_worn_4 (by decide) (fun c9 => ?_) (fun c9 => ?_)
  · refine am_ldc (v := (-1000000001)) dX10_worn_14 wd1060 ?_
    exact am_iret dX10_worn_16 rfl rfl
  refine am_iload_n dX10_worn_7 rfl ?_
  refine am_callS (cvj := am_ci) (mtj := mX10_isWord) (dj := 1) (nj := 1) (rcj := 0) (rsj := 0) (rc' := 0) (rs' := 0) (st' := fun a9 => (am_I a9 :: [])) [am_I l2] [] dX10_worn_8 okX10_isWord lk_RX10_198 (fun zA zH zE => txX10_isWord l2 h2 zA zH zE) rfl (fun _ => rfl) (by decide) rfl (Nat.le_of_ble_eq_true rfl) (by decide) (by decide) (fun r3 h4 => ?_)
  refine am_if_ne (tgt := 17) dX10_worn_11 (by decide) (fun c8 => ?_) (fun c8 => ?_)
  · refine am_aload_n dX10_worn_17 rfl ?_
    refine am_getR dX10_worn_18 fk_RX10_9 rfl ?_
    refine am_iconst (v := 4) dX10_worn_21 (by decide) ?_
    refine am_iald dX10_worn_22 ?_
    refine am_bipush (v := 10) dX10_worn_23 (by decide) ?_
    refine am_icmp_ne (tgt := 31) dX10_worn_25 (by decide) (fun c7 => ?_) (fun c7 => ?_)
    · refine am_aload_n dX10_worn_31 rfl ?_
      refine am_getR dX10_worn_32 fk_RX10_9 rfl ?_
      refine am_bipush (v := 6) dX10_worn_35 (by decide) ?_
      refine am_aload_n dX10_worn_37 rfl ?_
      refine am_getR dX10_worn_38 fk_RX10_9 rfl ?_
      refine am_iconst (v := 4) dX10_worn_41 (by decide) ?_
      refine am_iald dX10_worn_42 ?_
      refine am_iadd dX10_worn_43 ?_
      refine am_bipush (v := 10) dX10_worn_44 (by decide) ?_
      refine am_iload_n dX10_worn_46 rfl ?_
      refine am_imul dX10_worn_47 ?_
      refine am_iload_n dX10_worn_48 rfl ?_
      refine am_iadd dX10_worn_49 ?_
      refine am_iast dX10_worn_50 (fun h5 => ?_)
      refine am_aload_n dX10_worn_51 rfl ?_
      refine am_getR dX10_worn_52 fk_RX10_9 rfl ?_
      refine am_iconst (v := 4) dX10_worn_55 (by decide) ?_
      refine am_dup2 dX10_worn_56 ?_
      refine am_iald dX10_worn_57 ?_
      refine am_iconst (v := 1) dX10_worn_58 (by decide) ?_
      refine am_iadd dX10_worn_59 ?_
      refine am_iast dX10_worn_60 (fun h6 => ?_)
      refine am_aload_n dX10_worn_61 rfl ?_
      refine am_getR dX10_worn_62 fk_RX10_9 rfl ?_
      refine am_iconst (v := 4) dX10_worn_65 (by decide) ?_
      refine am_iald dX10_worn_66 ?_
      exact am_iret dX10_worn_67 rfl rfl
    refine am_ldc (v := (-1000000003)) dX10_worn_28 wd1061 ?_
    exact am_iret dX10_worn_30 rfl rfl
  refine am_ldc (v := (-1000000001)) dX10_worn_14 wd1060 ?_
  exact am_iret dX10_worn_16 rfl rfl
theorem txX10_worn {xs : List Int32} (l0 : Option Nat) (l1 : Int32) (l2 : Int32) (h : am_H) (a : Int32) (h2 : am_H) (e : fxX10_worn l0 l1 l2 h = some (a, h2)) : am_Ct xs mX10_worn 2 0 0 [am_R l0, am_I l1, am_I l2] h (fun v h3 => v = am_ci a ∧ h3 = h2) := am_meth okX10_worn (Nat.le_of_ble_eq_true rfl) rfl (sxX10_worn l0 l1 l2 h) e
theorem dX10_forget_0 : am_at cX10_forget 0 (.aload_n 0) 1 1 := by decide +kernel
theorem dX10_forget_1 : am_at cX10_forget 1 (.iconst 4) 1 2 := by decide +kernel
theorem dX10_forget_2 : am_at cX10_forget 2 (.iconst 0) 1 3 := by decide +kernel
theorem dX10_forget_3 : am_at cX10_forget 3 (.invokevirtual 116) 3 6 := by decide +kernel
theorem dX10_forget_6 : am_at cX10_forget 6 (.ireturn) 1 7 := by decide +kernel
def fxX10_forget (l0 : Option Nat) (h : am_H) : Option (Int32 × am_H) := am_gd (am_ob h l0 10) (am_bd (fxX10_becomes l0 (4 : Int32) (0 : Int32) h) (fun r1 h2 => some (r1, h2)))
set_option maxRecDepth 100000 in
theorem sxX10_forget {xs : List Int32} (l0 : Option Nat) (h : am_H) : am_Sm xs am_ci mX10_forget 1 0 0 0 [some (am_R l0)] [] h (fxX10_forget l0 h) := by
  unfold fxX10_forget
  refine am_aload_n dX10_forget_0 rfl ?_
  refine am_iconst (v := 4) dX10_forget_1 (by decide) ?_
  refine am_iconst (v := 0) dX10_forget_2 (by decide) ?_
  refine am_callV (cvj := am_ci) (mtj := mX10_becomes) (dj := 0) (nj := 2) (rcj := 0) (rsj := 0) (rc' := 0) (rs' := 0) (ci := 10) (st' := fun a9 => (am_I a9 :: [])) ⟨_, rfl, rfl⟩ [am_I (4 : Int32), am_I (0 : Int32)] [] dX10_forget_3 okX10_becomes lk_RX10_116 (fun zA zH zE => txX10_becomes l0 (4 : Int32) (0 : Int32) h zA zH zE) rfl (fun _ => rfl) (by decide) rfl (Nat.le_of_ble_eq_true rfl) (by decide) (by decide) (fun r1 h2 => ?_)
  exact am_iret dX10_forget_6 rfl rfl
theorem txX10_forget {xs : List Int32} (l0 : Option Nat) (h : am_H) (a : Int32) (h2 : am_H) (e : fxX10_forget l0 h = some (a, h2)) : am_Ct xs mX10_forget 1 0 0 [am_R l0] h (fun v h3 => v = am_ci a ∧ h3 = h2) := am_meth okX10_forget (Nat.le_of_ble_eq_true rfl) rfl (sxX10_forget l0 h) e
theorem dX10_gives_0 : am_at cX10_gives 0 (.iload_n 0) 1 1 := by decide +kernel
theorem dX10_gives_1 : am_at cX10_gives 1 (.getstatic 201) 3 4 := by decide +kernel
theorem dX10_gives_4 : am_at cX10_gives 4 (.iload_n 1) 1 5 := by decide +kernel
theorem dX10_gives_5 : am_at cX10_gives 5 (.iaload) 1 6 := by decide +kernel
theorem dX10_gives_6 : am_at cX10_gives 6 (.idiv) 1 7 := by decide +kernel
theorem dX10_gives_7 : am_at cX10_gives 7 (.iconst 5) 1 8 := by decide +kernel
theorem dX10_gives_8 : am_at cX10_gives 8 (.irem) 1 9 := by decide +kernel
theorem dX10_gives_9 : am_at cX10_gives 9 (.ireturn) 1 10 := by decide +kernel
def fxX10_gives (l0 : Int32) (l1 : Int32) (h : am_H) : Option (Int32 × am_H) := am_gd (am_in l1 (am_kc [] 1).length) (am_gd (am_nz ((am_kc [] 1).getD l1.toNatClampNeg 0)) (am_gd (am_nz (5 : Int32)) (some ((am_rem (l0 / ((am_kc [] 1).getD l1.toNatClampNeg 0)) (5 : Int32)), h))))
set_option maxRecDepth 100000 in
theorem sxX10_gives {xs : List Int32} (l0 : Int32) (l1 : Int32) (h : am_H) : am_Sm xs am_ci mX10_gives 0 0 0 0 [some (am_I l0), some (am_I l1)] [] h (fxX10_gives l0 l1 h) := by
  unfold fxX10_gives
  refine am_iload_n dX10_gives_0 rfl ?_
  refine am_gsFive dX10_gives_1 wd1285 ?_
  refine am_iload_n dX10_gives_4 rfl ?_
  refine am_kald dX10_gives_5 (Or.inr (Or.inl rfl)) ?_
  refine am_idiv dX10_gives_6 ?_
  refine am_iconst (v := 5) dX10_gives_7 (by decide) ?_
  refine am_irem dX10_gives_8 ?_
  exact am_iret dX10_gives_9 rfl rfl
theorem txX10_gives {xs : List Int32} (l0 : Int32) (l1 : Int32) (h : am_H) (a : Int32) (h2 : am_H) (e : fxX10_gives l0 l1 h = some (a, h2)) : am_Ct xs mX10_gives 0 0 0 [am_I l0, am_I l1] h (fun v h3 => v = am_ci a ∧ h3 = h2) := am_meth okX10_gives (Nat.le_of_ble_eq_true rfl) rfl (sxX10_gives l0 l1 h) e
theorem dX10_holdsJoin_0 : am_at cX10_holdsJoin 0 (.iconst 0) 1 1 := by decide +kernel
theorem dX10_holdsJoin_1 : am_at cX10_holdsJoin 1 (.istore_n 2) 1 2 := by decide +kernel
theorem dX10_holdsJoin_2 : am_at cX10_holdsJoin 2 (.iconst 0) 1 3 := by decide +kernel
theorem dX10_holdsJoin_3 : am_at cX10_holdsJoin 3 (.istore_n 3) 1 4 := by decide +kernel
theorem dX10_holdsJoin_4 : am_at cX10_holdsJoin 4 (.iload_n 3) 1 5 := by decide +kernel
theorem dX10_holdsJoin_5 : am_at cX10_holdsJoin 5 (.iconst 5) 1 6 := by decide +kernel
theorem dX10_holdsJoin_6 : am_at cX10_holdsJoin 6 (.if_icmp .ge 19) 3 9 := by decide +kernel
theorem dX10_holdsJoin_9 : am_at cX10_holdsJoin 9 (.iload_n 2) 1 10 := by decide +kernel
theorem dX10_holdsJoin_10 : am_at cX10_holdsJoin 10 (.iconst 1) 1 11 := by decide +kernel
theorem dX10_holdsJoin_11 : am_at cX10_holdsJoin 11 (.iload_n 1) 1 12 := by decide +kernel
theorem dX10_holdsJoin_12 : am_at cX10_holdsJoin 12 (.iload_n 3) 1 13 := by decide +kernel
theorem dX10_holdsJoin_13 : am_at cX10_holdsJoin 13 (.invokestatic 204) 3 16 := by decide +kernel
theorem dX10_holdsJoin_16 : am_at cX10_holdsJoin 16 (.ishl) 1 17 := by decide +kernel
theorem dX10_holdsJoin_17 : am_at cX10_holdsJoin 17 (.ior) 1 18 := by decide +kernel
theorem dX10_holdsJoin_18 : am_at cX10_holdsJoin 18 (.istore_n 2) 1 19 := by decide +kernel
theorem dX10_holdsJoin_19 : am_at cX10_holdsJoin 19 (.iinc 3 1) 3 22 := by decide +kernel
theorem dX10_holdsJoin_22 : am_at cX10_holdsJoin 22 (.goto (-18)) 3 25 := by decide +kernel
theorem dX10_holdsJoin_25 : am_at cX10_holdsJoin 25 (.iload_n 2) 1 26 := by decide +kernel
theorem dX10_holdsJoin_26 : am_at cX10_holdsJoin 26 (.bipush 31) 2 28 := by decide +kernel
theorem dX10_holdsJoin_28 : am_at cX10_holdsJoin 28 (.if_icmp .ne 7) 3 31 := by decide +kernel
theorem dX10_holdsJoin_31 : am_at cX10_holdsJoin 31 (.iconst 1) 1 32 := by decide +kernel
theorem dX10_holdsJoin_32 : am_at cX10_holdsJoin 32 (.goto 4) 3 35 := by decide +kernel
theorem dX10_holdsJoin_35 : am_at cX10_holdsJoin 35 (.iconst 0) 1 36 := by decide +kernel
theorem dX10_holdsJoin_36 : am_at cX10_holdsJoin 36 (.istore_n 3) 1 37 := by decide +kernel
theorem dX10_holdsJoin_37 : am_at cX10_holdsJoin 37 (.iconst 0) 1 38 := by decide +kernel
theorem dX10_holdsJoin_38 : am_at cX10_holdsJoin 38 (.istore 4) 2 40 := by decide +kernel
theorem dX10_holdsJoin_40 : am_at cX10_holdsJoin 40 (.iload 4) 2 42 := by decide +kernel
theorem dX10_holdsJoin_42 : am_at cX10_holdsJoin 42 (.aload_n 0) 1 43 := by decide +kernel
theorem dX10_holdsJoin_43 : am_at cX10_holdsJoin 43 (.getfield 9) 3 46 := by decide +kernel
theorem dX10_holdsJoin_46 : am_at cX10_holdsJoin 46 (.iconst 4) 1 47 := by decide +kernel
theorem dX10_holdsJoin_47 : am_at cX10_holdsJoin 47 (.iaload) 1 48 := by decide +kernel
theorem dX10_holdsJoin_48 : am_at cX10_holdsJoin 48 (.if_icmp .ge 52) 3 51 := by decide +kernel
theorem dX10_holdsJoin_51 : am_at cX10_holdsJoin 51 (.iload_n 3) 1 52 := by decide +kernel
theorem dX10_holdsJoin_52 : am_at cX10_holdsJoin 52 (.ifCond .eq 48) 3 55 := by decide +kernel
theorem dX10_holdsJoin_55 : am_at cX10_holdsJoin 55 (.iload_n 1) 1 56 := by decide +kernel
theorem dX10_holdsJoin_56 : am_at cX10_holdsJoin 56 (.aload_n 0) 1 57 := by decide +kernel
theorem dX10_holdsJoin_57 : am_at cX10_holdsJoin 57 (.getfield 9) 3 60 := by decide +kernel
theorem dX10_holdsJoin_60 : am_at cX10_holdsJoin 60 (.bipush 6) 2 62 := by decide +kernel
theorem dX10_holdsJoin_62 : am_at cX10_holdsJoin 62 (.iload 4) 2 64 := by decide +kernel
theorem dX10_holdsJoin_64 : am_at cX10_holdsJoin 64 (.iadd) 1 65 := by decide +kernel
theorem dX10_holdsJoin_65 : am_at cX10_holdsJoin 65 (.iaload) 1 66 := by decide +kernel
theorem dX10_holdsJoin_66 : am_at cX10_holdsJoin 66 (.bipush 10) 2 68 := by decide +kernel
theorem dX10_holdsJoin_68 : am_at cX10_holdsJoin 68 (.idiv) 1 69 := by decide +kernel
theorem dX10_holdsJoin_69 : am_at cX10_holdsJoin 69 (.invokestatic 204) 3 72 := by decide +kernel
theorem dX10_holdsJoin_72 : am_at cX10_holdsJoin 72 (.aload_n 0) 1 73 := by decide +kernel
theorem dX10_holdsJoin_73 : am_at cX10_holdsJoin 73 (.getfield 9) 3 76 := by decide +kernel
theorem dX10_holdsJoin_76 : am_at cX10_holdsJoin 76 (.bipush 6) 2 78 := by decide +kernel
theorem dX10_holdsJoin_78 : am_at cX10_holdsJoin 78 (.iload 4) 2 80 := by decide +kernel
theorem dX10_holdsJoin_80 : am_at cX10_holdsJoin 80 (.iadd) 1 81 := by decide +kernel
theorem dX10_holdsJoin_81 : am_at cX10_holdsJoin 81 (.iaload) 1 82 := by decide +kernel
theorem dX10_holdsJoin_82 : am_at cX10_holdsJoin 82 (.bipush 10) 2 84 := by decide +kernel
theorem dX10_holdsJoin_84 : am_at cX10_holdsJoin 84 (.irem) 1 85 := by decide +kernel
theorem dX10_holdsJoin_85 : am_at cX10_holdsJoin 85 (.if_icmp .ne 7) 3 88 := by decide +kernel
theorem dX10_holdsJoin_88 : am_at cX10_holdsJoin 88 (.iconst 1) 1 89 := by decide +kernel
theorem dX10_holdsJoin_89 : am_at cX10_holdsJoin 89 (.goto 4) 3 92 := by decide +kernel
theorem dX10_holdsJoin_92 : am_at cX10_holdsJoin 92 (.iconst 0) 1 93 := by decide +kernel
theorem dX10_holdsJoin_93 : am_at cX10_holdsJoin 93 (.istore_n 3) 1 94 := by decide +kernel
theorem dX10_holdsJoin_94 : am_at cX10_holdsJoin 94 (.iinc 4 1) 3 97 := by decide +kernel
theorem dX10_holdsJoin_97 : am_at cX10_holdsJoin 97 (.goto (-57)) 3 100 := by decide +kernel
theorem dX10_holdsJoin_100 : am_at cX10_holdsJoin 100 (.iload_n 3) 1 101 := by decide +kernel
theorem dX10_holdsJoin_101 : am_at cX10_holdsJoin 101 (.ireturn) 1 102 := by decide +kernel
def fxX10_holdsJoin_b93 (k40 : Option Nat → Int32 → Int32 → Int32 → am_H → Option (Int32 × am_H)) (l0 : Option Nat) (l1 : Int32) (l4 : Int32) (s0 : Int32) (h : am_H) : Option (Int32 × am_H) := am_lt s0 (fun x16 => am_lt (l4 + 1) (fun x17 => k40 l0 l1 x16 x17 h))
set_option maxRecDepth 100000 in
theorem sxX10_holdsJoin_b93 {xs : List Int32} (k40 : Option Nat → Int32 → Int32 → Int32 → am_H → Option (Int32 × am_H)) (hk40 : ∀ (l0 : Option Nat) (l1 : Int32) (l3 : Int32) (l4 : Int32) (h : am_H), am_Sm xs am_ci mX10_holdsJoin 1 0 0 40 [some (am_R l0), some (am_I l1), none, some (am_I l3), some (am_I l4)] [] h (k40 l0 l1 l3 l4 h)) (l0 : Option Nat) (l1 : Int32) (l4 : Int32) (s0 : Int32) (h : am_H) : am_Sm xs am_ci mX10_holdsJoin 1 0 0 93 [some (am_R l0), some (am_I l1), none, none, some (am_I l4)] [am_I s0] h (fxX10_holdsJoin_b93 k40 l0 l1 l4 s0 h) := by
  unfold fxX10_holdsJoin_b93
  refine am_istore_n (LL := fun y9 => [some (am_R l0), some (am_I l1), none, some (am_I y9), some (am_I l4)]) dX10_holdsJoin_93 (by decide) (fun _ => rfl) (fun x16 => ?_)
  refine am_iinc (v := 1) (LL := fun y9 => [some (am_R l0), some (am_I l1), none, some (am_I x16), some (am_I y9)]) dX10_holdsJoin_94 (by decide) rfl (by decide) (fun _ => rfl) (fun x17 => ?_)
  refine am_goto (tgt := 40) dX10_holdsJoin_97 (by decide) ?_
  exact am_weak (hk40 l0 l1 x16 x17 h) ⟨rfl, ⟨rfl, ⟨rfl, ⟨rfl, trivial⟩⟩⟩⟩ (Nat.le_refl _) (Nat.le_refl _)
def fxX10_holdsJoin_b40 : Nat → Option Nat → Int32 → Int32 → Int32 → am_H → Option (Int32 × am_H)
  | 0, _, _, _, _, _ => none
  | n + 1, l0, l1, l3, l4, h => am_gd (am_ob h l0 10) (am_gd (am_ix h (am_gr h l0 0) 0 (4 : Int32)) (if (am_gi h (am_gr h l0 0) (4 : Int32).toNatClampNeg) ≤ l4 then (am_gd (am_bz l3) (some (l3, h))) else (if l3 = 0 then (am_gd (am_bz l3) (some (l3, h))) else (am_gd (am_ob h l0 10) (am_gd (am_ix h (am_gr h l0 0) 0 ((6 : Int32) + l4)) (am_gd (am_nz (10 : Int32)) (am_bd (fxX10_gives l1 ((am_gi h (am_gr h l0 0) ((6 : Int32) + l4).toNatClampNeg) / (10 : Int32)) h) (fun r11 h12 => am_gd (am_ob h12 l0 10) (am_gd (am_ix h12 (am_gr h12 l0 0) 0 ((6 : Int32) + l4)) (am_gd (am_nz (10 : Int32)) (if r11 = (am_rem (am_gi h12 (am_gr h12 l0 0) ((6 : Int32) + l4).toNatClampNeg) (10 : Int32)) then (fxX10_holdsJoin_b93 (fxX10_holdsJoin_b40 n) l0 l1 l4 (1 : Int32) h12) else (fxX10_holdsJoin_b93 (fxX10_holdsJoin_b40 n) l0 l1 l4 (0 : Int32) h12))))))))))))
set_option maxRecDepth 100000 in
theorem sxX10_holdsJoin_b40 {xs : List Int32} : ∀ (n : Nat) (l0 : Option Nat) (l1 : Int32) (l3 : Int32) (l4 : Int32) (h : am_H), am_Sm xs am_ci mX10_holdsJoin 1 0 0 40 [some (am_R l0), some (am_I l1), none, some (am_I l3), some (am_I l4)] [] h (fxX10_holdsJoin_b40 n l0 l1 l3 l4 h) := by
  intro n
  induction n with
  | zero => intros; exact am_none
  | succ n ih =>
    intro l0 l1 l3 l4 h
    rw [fxX10_holdsJoin_b40]
    refine am_iload dX10_holdsJoin_40 rfl ?_
    refine am_aload_n dX10_holdsJoin_42 rfl ?_
    refine am_getR dX10_holdsJoin_43 fk_RX10_9 rfl ?_
    refine am_iconst (v := 4) dX10_holdsJoin_46 (by decide) ?_
    refine am_iald dX10_holdsJoin_47 ?_
    refine am_icmp_ge (tgt := 100) dX10_holdsJoin_48 (by decide) (fun c15 => ?_) (fun c15 => ?_)
    · refine am_iload_n dX10_holdsJoin_100 rfl ?_
      exact am_zret dX10_holdsJoin_101 rfl rfl
    refine am_iload_n dX10_holdsJoin_51 rfl ?_
    refine am_if_eq (tgt := 100) dX10_holdsJoin_52 (by decide) (fun c14 => ?_) (fun c14 => ?_)
    · refine am_iload_n dX10_holdsJoin_100 rfl ?_
      exact am_zret dX10_holdsJoin_101 rfl rfl
    refine am_iload_n dX10_holdsJoin_55 rfl ?_
    refine am_aload_n dX10_holdsJoin_56 rfl ?_
    refine am_getR dX10_holdsJoin_57 fk_RX10_9 rfl ?_
    refine am_bipush (v := 6) dX10_holdsJoin_60 (by decide) ?_
    refine am_iload dX10_holdsJoin_62 rfl ?_
    refine am_iadd dX10_holdsJoin_64 ?_
    refine am_iald dX10_holdsJoin_65 ?_
    refine am_bipush (v := 10) dX10_holdsJoin_66 (by decide) ?_
    refine am_idiv dX10_holdsJoin_68 ?_
    refine am_callS (cvj := am_ci) (mtj := mX10_gives) (dj := 0) (nj := 2) (rcj := 0) (rsj := 0) (rc' := 0) (rs' := 0) (st' := fun a9 => (am_I a9 :: [])) [am_I l1, am_I ((am_gi h (am_gr h l0 0) ((6 : Int32) + l4).toNatClampNeg) / (10 : Int32))] [] dX10_holdsJoin_69 okX10_gives lk_RX10_204 (fun zA zH zE => txX10_gives l1 ((am_gi h (am_gr h l0 0) ((6 : Int32) + l4).toNatClampNeg) / (10 : Int32)) h zA zH zE) rfl (fun _ => rfl) (by decide) rfl (Nat.le_of_ble_eq_true rfl) (by decide) (by decide) (fun r11 h12 => ?_)
    refine am_aload_n dX10_holdsJoin_72 rfl ?_
    refine am_getR dX10_holdsJoin_73 fk_RX10_9 rfl ?_
    refine am_bipush (v := 6) dX10_holdsJoin_76 (by decide) ?_
    refine am_iload dX10_holdsJoin_78 rfl ?_
    refine am_iadd dX10_holdsJoin_80 ?_
    refine am_iald dX10_holdsJoin_81 ?_
    refine am_bipush (v := 10) dX10_holdsJoin_82 (by decide) ?_
    refine am_irem dX10_holdsJoin_84 ?_
    refine am_icmp_ne (tgt := 92) dX10_holdsJoin_85 (by decide) (fun c13 => ?_) (fun c13 => ?_)
    · refine am_iconst (v := 0) dX10_holdsJoin_92 (by decide) ?_
      exact am_weak (sxX10_holdsJoin_b93 (fxX10_holdsJoin_b40 n) ih l0 l1 l4 (0 : Int32) h12) ⟨rfl, ⟨rfl, ⟨rfl, trivial⟩⟩⟩ (Nat.le_refl _) (Nat.le_refl _)
    refine am_iconst (v := 1) dX10_holdsJoin_88 (by decide) ?_
    refine am_goto (tgt := 93) dX10_holdsJoin_89 (by decide) ?_
    exact am_weak (sxX10_holdsJoin_b93 (fxX10_holdsJoin_b40 n) ih l0 l1 l4 (1 : Int32) h12) ⟨rfl, ⟨rfl, ⟨rfl, trivial⟩⟩⟩ (Nat.le_refl _) (Nat.le_refl _)
def fxX10_holdsJoin_b36 (l0 : Option Nat) (l1 : Int32) (s0 : Int32) (h : am_H) : Option (Int32 × am_H) := am_lt s0 (fun x9 => am_lt (0 : Int32) (fun x10 => fxX10_holdsJoin_b40 am_F l0 l1 x9 x10 h))
set_option maxRecDepth 100000 in
theorem sxX10_holdsJoin_b36 {xs : List Int32} (l0 : Option Nat) (l1 : Int32) (s0 : Int32) (h : am_H) : am_Sm xs am_ci mX10_holdsJoin 1 0 0 36 [some (am_R l0), some (am_I l1), none, none, none] [am_I s0] h (fxX10_holdsJoin_b36 l0 l1 s0 h) := by
  unfold fxX10_holdsJoin_b36
  refine am_istore_n (LL := fun y9 => [some (am_R l0), some (am_I l1), none, some (am_I y9), none]) dX10_holdsJoin_36 (by decide) (fun _ => rfl) (fun x9 => ?_)
  refine am_iconst (v := 0) dX10_holdsJoin_37 (by decide) ?_
  refine am_istore (LL := fun y9 => [some (am_R l0), some (am_I l1), none, some (am_I x9), some (am_I y9)]) dX10_holdsJoin_38 (by decide) (fun _ => rfl) (fun x10 => ?_)
  exact am_weak (sxX10_holdsJoin_b40 am_F l0 l1 x9 x10 h) ⟨rfl, ⟨rfl, ⟨rfl, ⟨rfl, trivial⟩⟩⟩⟩ (Nat.le_refl _) (Nat.le_refl _)
def fxX10_holdsJoin_b4 : Nat → Option Nat → Int32 → Int32 → Int32 → am_H → Option (Int32 × am_H)
  | 0, _, _, _, _, _ => none
  | n + 1, l0, l1, l2, l3, h => if (5 : Int32) ≤ l3 then (if l2 = (31 : Int32) then (fxX10_holdsJoin_b36 l0 l1 (1 : Int32) h) else (fxX10_holdsJoin_b36 l0 l1 (0 : Int32) h)) else (am_bd (fxX10_gives l1 l3 h) (fun r4 h5 => am_lt (l2 ||| ((1 : Int32) <<< (r4 &&& 31))) (fun x6 => am_lt (l3 + 1) (fun x7 => fxX10_holdsJoin_b4 n l0 l1 x6 x7 h5))))
set_option maxRecDepth 100000 in
theorem sxX10_holdsJoin_b4 {xs : List Int32} : ∀ (n : Nat) (l0 : Option Nat) (l1 : Int32) (l2 : Int32) (l3 : Int32) (h : am_H), am_Sm xs am_ci mX10_holdsJoin 1 0 0 4 [some (am_R l0), some (am_I l1), some (am_I l2), some (am_I l3), none] [] h (fxX10_holdsJoin_b4 n l0 l1 l2 l3 h) := by
  intro n
  induction n with
  | zero => intros; exact am_none
  | succ n ih =>
    intro l0 l1 l2 l3 h
    rw [fxX10_holdsJoin_b4]
    refine am_iload_n dX10_holdsJoin_4 rfl ?_
    refine am_iconst (v := 5) dX10_holdsJoin_5 (by decide) ?_
    refine am_icmp_ge (tgt := 25) dX10_holdsJoin_6 (by decide) (fun c8 => ?_) (fun c8 => ?_)
    · refine am_iload_n dX10_holdsJoin_25 rfl ?_
      refine am_bipush (v := 31) dX10_holdsJoin_26 (by decide) ?_
      refine am_icmp_ne (tgt := 35) dX10_holdsJoin_28 (by decide) (fun c3 => ?_) (fun c3 => ?_)
      · refine am_iconst (v := 0) dX10_holdsJoin_35 (by decide) ?_
        exact am_weak (sxX10_holdsJoin_b36 l0 l1 (0 : Int32) h) ⟨rfl, ⟨rfl, trivial⟩⟩ (Nat.le_refl _) (Nat.le_refl _)
      refine am_iconst (v := 1) dX10_holdsJoin_31 (by decide) ?_
      refine am_goto (tgt := 36) dX10_holdsJoin_32 (by decide) ?_
      exact am_weak (sxX10_holdsJoin_b36 l0 l1 (1 : Int32) h) ⟨rfl, ⟨rfl, trivial⟩⟩ (Nat.le_refl _) (Nat.le_refl _)
    refine am_iload_n dX10_holdsJoin_9 rfl ?_
    refine am_iconst (v := 1) dX10_holdsJoin_10 (by decide) ?_
    refine am_iload_n dX10_holdsJoin_11 rfl ?_
    refine am_iload_n dX10_holdsJoin_12 rfl ?_
    refine am_callS (cvj := am_ci) (mtj := mX10_gives) (dj := 0) (nj := 2) (rcj := 0) (rsj := 0) (rc' := 0) (rs' := 0) (st' := fun a9 => (am_I a9 :: [am_I (1 : Int32), am_I l2])) [am_I l1, am_I l3] [am_I (1 : Int32), am_I l2] dX10_holdsJoin_13 okX10_gives lk_RX10_204 (fun zA zH zE => txX10_gives l1 l3 h zA zH zE) rfl (fun _ => rfl) (by decide) rfl (Nat.le_of_ble_eq_true rfl) (by decide) (by decide) (fun r4 h5 => ?_)
    refine am_ishl dX10_holdsJoin_16 ?_
    refine am_ior dX10_holdsJoin_17 ?_
    refine am_istore_n (LL := fun y9 => [some (am_R l0), some (am_I l1), some (am_I y9), some (am_I l3), none]) dX10_holdsJoin_18 (by decide) (fun _ => rfl) (fun x6 => ?_)
    refine am_iinc (v := 1) (LL := fun y9 => [some (am_R l0), some (am_I l1), some (am_I x6), some (am_I y9), none]) dX10_holdsJoin_19 (by decide) rfl (by decide) (fun _ => rfl) (fun x7 => ?_)
    refine am_goto (tgt := 4) dX10_holdsJoin_22 (by decide) ?_
    exact am_weak (ih l0 l1 x6 x7 h5) ⟨rfl, ⟨rfl, ⟨rfl, ⟨rfl, trivial⟩⟩⟩⟩ (Nat.le_refl _) (Nat.le_refl _)
def fxX10_holdsJoin (l0 : Option Nat) (l1 : Int32) (h : am_H) : Option (Int32 × am_H) := am_lt (0 : Int32) (fun x1 => am_lt (0 : Int32) (fun x2 => fxX10_holdsJoin_b4 am_F l0 l1 x1 x2 h))
set_option maxRecDepth 100000 in
theorem sxX10_holdsJoin {xs : List Int32} (l0 : Option Nat) (l1 : Int32) (h : am_H) : am_Sm xs am_ci mX10_holdsJoin 1 0 0 0 [some (am_R l0), some (am_I l1), none, none, none] [] h (fxX10_holdsJoin l0 l1 h) := by
  unfold fxX10_holdsJoin
  refine am_iconst (v := 0) dX10_holdsJoin_0 (by decide) ?_
  refine am_istore_n (LL := fun y9 => [some (am_R l0), some (am_I l1), some (am_I y9), none, none]) dX10_holdsJoin_1 (by decide) (fun _ => rfl) (fun x1 => ?_)
  refine am_iconst (v := 0) dX10_holdsJoin_2 (by decide) ?_
  refine am_istore_n (LL := fun y9 => [some (am_R l0), some (am_I l1), some (am_I x1), some (am_I y9), none]) dX10_holdsJoin_3 (by decide) (fun _ => rfl) (fun x2 => ?_)
  exact am_weak (sxX10_holdsJoin_b4 am_F l0 l1 x1 x2 h) ⟨rfl, ⟨rfl, ⟨rfl, ⟨rfl, trivial⟩⟩⟩⟩ (Nat.le_refl _) (Nat.le_refl _)
theorem txX10_holdsJoin {xs : List Int32} (l0 : Option Nat) (l1 : Int32) (h : am_H) (a : Int32) (h2 : am_H) (e : fxX10_holdsJoin l0 l1 h = some (a, h2)) : am_Ct xs mX10_holdsJoin 1 0 0 [am_R l0, am_I l1] h (fun v h3 => v = am_ci a ∧ h3 = h2) := am_meth okX10_holdsJoin (Nat.le_of_ble_eq_true rfl) rfl (sxX10_holdsJoin l0 l1 h) e
theorem dX10_findJoins_0 : am_at cX10_findJoins 0 (.iconst 0) 1 1 := by decide +kernel
theorem dX10_findJoins_1 : am_at cX10_findJoins 1 (.istore_n 1) 1 2 := by decide +kernel
theorem dX10_findJoins_2 : am_at cX10_findJoins 2 (.iload_n 1) 1 3 := by decide +kernel
theorem dX10_findJoins_3 : am_at cX10_findJoins 3 (.bipush 25) 2 5 := by decide +kernel
theorem dX10_findJoins_5 : am_at cX10_findJoins 5 (.if_icmp .ge 16) 3 8 := by decide +kernel
theorem dX10_findJoins_8 : am_at cX10_findJoins 8 (.aload_n 0) 1 9 := by decide +kernel
theorem dX10_findJoins_9 : am_at cX10_findJoins 9 (.getfield 28) 3 12 := by decide +kernel
theorem dX10_findJoins_12 : am_at cX10_findJoins 12 (.iload_n 1) 1 13 := by decide +kernel
theorem dX10_findJoins_13 : am_at cX10_findJoins 13 (.iconst 0) 1 14 := by decide +kernel
theorem dX10_findJoins_14 : am_at cX10_findJoins 14 (.iastore) 1 15 := by decide +kernel
theorem dX10_findJoins_15 : am_at cX10_findJoins 15 (.iinc 1 1) 3 18 := by decide +kernel
theorem dX10_findJoins_18 : am_at cX10_findJoins 18 (.goto (-16)) 3 21 := by decide +kernel
theorem dX10_findJoins_21 : am_at cX10_findJoins 21 (.iconst 0) 1 22 := by decide +kernel
theorem dX10_findJoins_22 : am_at cX10_findJoins 22 (.istore_n 1) 1 23 := by decide +kernel
theorem dX10_findJoins_23 : am_at cX10_findJoins 23 (.iconst 0) 1 24 := by decide +kernel
theorem dX10_findJoins_24 : am_at cX10_findJoins 24 (.istore_n 2) 1 25 := by decide +kernel
theorem dX10_findJoins_25 : am_at cX10_findJoins 25 (.iload_n 2) 1 26 := by decide +kernel
theorem dX10_findJoins_26 : am_at cX10_findJoins 26 (.sipush 3125) 3 29 := by decide +kernel
theorem dX10_findJoins_29 : am_at cX10_findJoins 29 (.if_icmp .ge 51) 3 32 := by decide +kernel
theorem dX10_findJoins_32 : am_at cX10_findJoins 32 (.aload_n 0) 1 33 := by decide +kernel
theorem dX10_findJoins_33 : am_at cX10_findJoins 33 (.iload_n 2) 1 34 := by decide +kernel
theorem dX10_findJoins_34 : am_at cX10_findJoins 34 (.invokevirtual 207) 3 37 := by decide +kernel
theorem dX10_findJoins_37 : am_at cX10_findJoins 37 (.ifCond .eq 37) 3 40 := by decide +kernel
theorem dX10_findJoins_40 : am_at cX10_findJoins 40 (.iinc 1 1) 3 43 := by decide +kernel
theorem dX10_findJoins_43 : am_at cX10_findJoins 43 (.iconst 0) 1 44 := by decide +kernel
theorem dX10_findJoins_44 : am_at cX10_findJoins 44 (.istore_n 3) 1 45 := by decide +kernel
theorem dX10_findJoins_45 : am_at cX10_findJoins 45 (.iload_n 3) 1 46 := by decide +kernel
theorem dX10_findJoins_46 : am_at cX10_findJoins 46 (.iconst 5) 1 47 := by decide +kernel
theorem dX10_findJoins_47 : am_at cX10_findJoins 47 (.if_icmp .ge 27) 3 50 := by decide +kernel
theorem dX10_findJoins_50 : am_at cX10_findJoins 50 (.aload_n 0) 1 51 := by decide +kernel
theorem dX10_findJoins_51 : am_at cX10_findJoins 51 (.getfield 28) 3 54 := by decide +kernel
theorem dX10_findJoins_54 : am_at cX10_findJoins 54 (.iconst 5) 1 55 := by decide +kernel
theorem dX10_findJoins_55 : am_at cX10_findJoins 55 (.iload_n 3) 1 56 := by decide +kernel
theorem dX10_findJoins_56 : am_at cX10_findJoins 56 (.imul) 1 57 := by decide +kernel
theorem dX10_findJoins_57 : am_at cX10_findJoins 57 (.iload_n 2) 1 58 := by decide +kernel
theorem dX10_findJoins_58 : am_at cX10_findJoins 58 (.iload_n 3) 1 59 := by decide +kernel
theorem dX10_findJoins_59 : am_at cX10_findJoins 59 (.invokestatic 204) 3 62 := by decide +kernel
theorem dX10_findJoins_62 : am_at cX10_findJoins 62 (.iadd) 1 63 := by decide +kernel
theorem dX10_findJoins_63 : am_at cX10_findJoins 63 (.dup2) 1 64 := by decide +kernel
theorem dX10_findJoins_64 : am_at cX10_findJoins 64 (.iaload) 1 65 := by decide +kernel
theorem dX10_findJoins_65 : am_at cX10_findJoins 65 (.iconst 1) 1 66 := by decide +kernel
theorem dX10_findJoins_66 : am_at cX10_findJoins 66 (.iadd) 1 67 := by decide +kernel
theorem dX10_findJoins_67 : am_at cX10_findJoins 67 (.iastore) 1 68 := by decide +kernel
theorem dX10_findJoins_68 : am_at cX10_findJoins 68 (.iinc 3 1) 3 71 := by decide +kernel
theorem dX10_findJoins_71 : am_at cX10_findJoins 71 (.goto (-26)) 3 74 := by decide +kernel
theorem dX10_findJoins_74 : am_at cX10_findJoins 74 (.iinc 2 1) 3 77 := by decide +kernel
theorem dX10_findJoins_77 : am_at cX10_findJoins 77 (.goto (-52)) 3 80 := by decide +kernel
theorem dX10_findJoins_80 : am_at cX10_findJoins 80 (.iload_n 1) 1 81 := by decide +kernel
theorem dX10_findJoins_81 : am_at cX10_findJoins 81 (.ireturn) 1 82 := by decide +kernel
def fxX10_findJoins_b74 (k25 : Option Nat → Int32 → Int32 → am_H → Option (Int32 × am_H)) (l0 : Option Nat) (l1 : Int32) (l2 : Int32) (h : am_H) : Option (Int32 × am_H) := am_lt (l2 + 1) (fun x13 => k25 l0 l1 x13 h)
set_option maxRecDepth 100000 in
theorem sxX10_findJoins_b74 {xs : List Int32} (k25 : Option Nat → Int32 → Int32 → am_H → Option (Int32 × am_H)) (hk25 : ∀ (l0 : Option Nat) (l1 : Int32) (l2 : Int32) (h : am_H), am_Sm xs am_ci mX10_findJoins 2 0 0 25 [some (am_R l0), some (am_I l1), some (am_I l2), none] [] h (k25 l0 l1 l2 h)) (l0 : Option Nat) (l1 : Int32) (l2 : Int32) (h : am_H) : am_Sm xs am_ci mX10_findJoins 2 0 0 74 [some (am_R l0), some (am_I l1), some (am_I l2), none] [] h (fxX10_findJoins_b74 k25 l0 l1 l2 h) := by
  unfold fxX10_findJoins_b74
  refine am_iinc (v := 1) (LL := fun y9 => [some (am_R l0), some (am_I l1), some (am_I y9), none]) dX10_findJoins_74 (by decide) rfl (by decide) (fun _ => rfl) (fun x13 => ?_)
  refine am_goto (tgt := 25) dX10_findJoins_77 (by decide) ?_
  exact am_weak (hk25 l0 l1 x13 h) ⟨rfl, ⟨rfl, ⟨rfl, trivial⟩⟩⟩ (Nat.le_refl _) (Nat.le_refl _)
def fxX10_findJoins_b45 (k25 : Option Nat → Int32 → Int32 → am_H → Option (Int32 × am_H)) : Nat → Option Nat → Int32 → Int32 → Int32 → am_H → Option (Int32 × am_H)
  | 0, _, _, _, _, _ => none
  | n + 1, l0, l1, l2, l3, h => if (5 : Int32) ≤ l3 then (fxX10_findJoins_b74 k25 l0 l1 l2 h) else (am_gd (am_ob h l0 10) (am_bd (fxX10_gives l2 l3 h) (fun r14 h15 => am_gd (am_ix h15 (am_gr h l0 7) 0 (((5 : Int32) * l3) + r14)) (am_gd (am_ix h15 (am_gr h l0 7) 0 (((5 : Int32) * l3) + r14)) (am_lt (am_si h15 (am_gr h l0 7) (((5 : Int32) * l3) + r14).toNatClampNeg ((am_gi h15 (am_gr h l0 7) (((5 : Int32) * l3) + r14).toNatClampNeg) + (1 : Int32))) (fun h16 => am_lt (l3 + 1) (fun x17 => fxX10_findJoins_b45 k25 n l0 l1 l2 x17 h16)))))))
set_option maxRecDepth 100000 in
theorem sxX10_findJoins_b45 {xs : List Int32} (k25 : Option Nat → Int32 → Int32 → am_H → Option (Int32 × am_H)) (hk25 : ∀ (l0 : Option Nat) (l1 : Int32) (l2 : Int32) (h : am_H), am_Sm xs am_ci mX10_findJoins 2 0 0 25 [some (am_R l0), some (am_I l1), some (am_I l2), none] [] h (k25 l0 l1 l2 h)) : ∀ (n : Nat) (l0 : Option Nat) (l1 : Int32) (l2 : Int32) (l3 : Int32) (h : am_H), am_Sm xs am_ci mX10_findJoins 2 0 0 45 [some (am_R l0), some (am_I l1), some (am_I l2), some (am_I l3)] [] h (fxX10_findJoins_b45 k25 n l0 l1 l2 l3 h) := by
  intro n
  induction n with
  | zero => intros; exact am_none
  | succ n ih =>
    intro l0 l1 l2 l3 h
    rw [fxX10_findJoins_b45]
    refine am_iload_n dX10_findJoins_45 rfl ?_
    refine am_iconst (v := 5) dX10_findJoins_46 (by decide) ?_
    refine am_icmp_ge (tgt := 74) dX10_findJoins_47 (by decide) (fun c18 => ?_) (fun c18 => ?_)
    · exact am_weak (sxX10_findJoins_b74 k25 hk25 l0 l1 l2 h) ⟨rfl, ⟨rfl, ⟨rfl, trivial⟩⟩⟩ (Nat.le_refl _) (Nat.le_refl _)
    refine am_aload_n dX10_findJoins_50 rfl ?_
    refine am_getR dX10_findJoins_51 fk_RX10_28 rfl ?_
    refine am_iconst (v := 5) dX10_findJoins_54 (by decide) ?_
    refine am_iload_n dX10_findJoins_55 rfl ?_
    refine am_imul dX10_findJoins_56 ?_
    refine am_iload_n dX10_findJoins_57 rfl ?_
    refine am_iload_n dX10_findJoins_58 rfl ?_
    refine am_callS (cvj := am_ci) (mtj := mX10_gives) (dj := 0) (nj := 2) (rcj := 0) (rsj := 0) (rc' := 0) (rs' := 0) (st' := fun a9 => (am_I a9 :: [am_I ((5 : Int32) * l3), am_R (am_gr h l0 7)])) [am_I l2, am_I l3] [am_I ((5 : Int32) * l3), am_R (am_gr h l0 7)] dX10_findJoins_59 okX10_gives lk_RX10_204 (fun zA zH zE => txX10_gives l2 l3 h zA zH zE) rfl (fun _ => rfl) (by decide) rfl (Nat.le_of_ble_eq_true rfl) (by decide) (by decide) (fun r14 h15 => ?_)
    refine am_iadd dX10_findJoins_62 ?_
    refine am_dup2 dX10_findJoins_63 ?_
    refine am_iald dX10_findJoins_64 ?_
    refine am_iconst (v := 1) dX10_findJoins_65 (by decide) ?_
    refine am_iadd dX10_findJoins_66 ?_
    refine am_iast dX10_findJoins_67 (fun h16 => ?_)
    refine am_iinc (v := 1) (LL := fun y9 => [some (am_R l0), some (am_I l1), some (am_I l2), some (am_I y9)]) dX10_findJoins_68 (by decide) rfl (by decide) (fun _ => rfl) (fun x17 => ?_)
    refine am_goto (tgt := 45) dX10_findJoins_71 (by decide) ?_
    exact am_weak (ih l0 l1 l2 x17 h16) ⟨rfl, ⟨rfl, ⟨rfl, ⟨rfl, trivial⟩⟩⟩⟩ (Nat.le_refl _) (Nat.le_refl _)
def fxX10_findJoins_b25 : Nat → Option Nat → Int32 → Int32 → am_H → Option (Int32 × am_H)
  | 0, _, _, _, _ => none
  | n + 1, l0, l1, l2, h => if (3125 : Int32) ≤ l2 then (some (l1, h)) else (am_gd (am_ob h l0 10) (am_bd (fxX10_holdsJoin l0 l2 h) (fun r7 h8 => if r7 = 0 then (fxX10_findJoins_b74 (fxX10_findJoins_b25 n) l0 l1 l2 h8) else (am_lt (l1 + 1) (fun x9 => am_lt (0 : Int32) (fun x10 => fxX10_findJoins_b45 (fxX10_findJoins_b25 n) am_F l0 x9 l2 x10 h8))))))
set_option maxRecDepth 100000 in
theorem sxX10_findJoins_b25 {xs : List Int32} : ∀ (n : Nat) (l0 : Option Nat) (l1 : Int32) (l2 : Int32) (h : am_H), am_Sm xs am_ci mX10_findJoins 2 0 0 25 [some (am_R l0), some (am_I l1), some (am_I l2), none] [] h (fxX10_findJoins_b25 n l0 l1 l2 h) := by
  intro n
  induction n with
  | zero => intros; exact am_none
  | succ n ih =>
    intro l0 l1 l2 h
    rw [fxX10_findJoins_b25]
    refine am_iload_n dX10_findJoins_25 rfl ?_
    refine am_sipush (v := 3125) dX10_findJoins_26 (by decide) ?_
    refine am_icmp_ge (tgt := 80) dX10_findJoins_29 (by decide) (fun c12 => ?_) (fun c12 => ?_)
    · refine am_iload_n dX10_findJoins_80 rfl ?_
      exact am_iret dX10_findJoins_81 rfl rfl
    refine am_aload_n dX10_findJoins_32 rfl ?_
    refine am_iload_n dX10_findJoins_33 rfl ?_
    refine am_callV (cvj := am_ci) (mtj := mX10_holdsJoin) (dj := 1) (nj := 1) (rcj := 0) (rsj := 0) (rc' := 0) (rs' := 0) (ci := 10) (st' := fun a9 => (am_I a9 :: [])) ⟨_, rfl, rfl⟩ [am_I l2] [] dX10_findJoins_34 okX10_holdsJoin lk_RX10_207 (fun zA zH zE => txX10_holdsJoin l0 l2 h zA zH zE) rfl (fun _ => rfl) (by decide) rfl (Nat.le_of_ble_eq_true rfl) (by decide) (by decide) (fun r7 h8 => ?_)
    refine am_if_eq (tgt := 74) dX10_findJoins_37 (by decide) (fun c11 => ?_) (fun c11 => ?_)
    · exact am_weak (sxX10_findJoins_b74 (fxX10_findJoins_b25 n) ih l0 l1 l2 h8) ⟨rfl, ⟨rfl, ⟨rfl, trivial⟩⟩⟩ (Nat.le_refl _) (Nat.le_refl _)
    refine am_iinc (v := 1) (LL := fun y9 => [some (am_R l0), some (am_I y9), some (am_I l2), none]) dX10_findJoins_40 (by decide) rfl (by decide) (fun _ => rfl) (fun x9 => ?_)
    refine am_iconst (v := 0) dX10_findJoins_43 (by decide) ?_
    refine am_istore_n (LL := fun y9 => [some (am_R l0), some (am_I x9), some (am_I l2), some (am_I y9)]) dX10_findJoins_44 (by decide) (fun _ => rfl) (fun x10 => ?_)
    exact am_weak (sxX10_findJoins_b45 (fxX10_findJoins_b25 n) ih am_F l0 x9 l2 x10 h8) ⟨rfl, ⟨rfl, ⟨rfl, ⟨rfl, trivial⟩⟩⟩⟩ (Nat.le_refl _) (Nat.le_refl _)
def fxX10_findJoins_b2 : Nat → Option Nat → Int32 → am_H → Option (Int32 × am_H)
  | 0, _, _, _ => none
  | n + 1, l0, l1, h => if (25 : Int32) ≤ l1 then (am_lt (0 : Int32) (fun x2 => am_lt (0 : Int32) (fun x3 => fxX10_findJoins_b25 am_F l0 x2 x3 h))) else (am_gd (am_ob h l0 10) (am_gd (am_ix h (am_gr h l0 7) 0 l1) (am_lt (am_si h (am_gr h l0 7) l1.toNatClampNeg (0 : Int32)) (fun h4 => am_lt (l1 + 1) (fun x5 => fxX10_findJoins_b2 n l0 x5 h4)))))
set_option maxRecDepth 100000 in
theorem sxX10_findJoins_b2 {xs : List Int32} : ∀ (n : Nat) (l0 : Option Nat) (l1 : Int32) (h : am_H), am_Sm xs am_ci mX10_findJoins 2 0 0 2 [some (am_R l0), some (am_I l1), none, none] [] h (fxX10_findJoins_b2 n l0 l1 h) := by
  intro n
  induction n with
  | zero => intros; exact am_none
  | succ n ih =>
    intro l0 l1 h
    rw [fxX10_findJoins_b2]
    refine am_iload_n dX10_findJoins_2 rfl ?_
    refine am_bipush (v := 25) dX10_findJoins_3 (by decide) ?_
    refine am_icmp_ge (tgt := 21) dX10_findJoins_5 (by decide) (fun c6 => ?_) (fun c6 => ?_)
    · refine am_iconst (v := 0) dX10_findJoins_21 (by decide) ?_
      refine am_istore_n (LL := fun y9 => [some (am_R l0), some (am_I y9), none, none]) dX10_findJoins_22 (by decide) (fun _ => rfl) (fun x2 => ?_)
      refine am_iconst (v := 0) dX10_findJoins_23 (by decide) ?_
      refine am_istore_n (LL := fun y9 => [some (am_R l0), some (am_I x2), some (am_I y9), none]) dX10_findJoins_24 (by decide) (fun _ => rfl) (fun x3 => ?_)
      exact am_weak (sxX10_findJoins_b25 am_F l0 x2 x3 h) ⟨rfl, ⟨rfl, ⟨rfl, trivial⟩⟩⟩ (Nat.le_refl _) (Nat.le_refl _)
    refine am_aload_n dX10_findJoins_8 rfl ?_
    refine am_getR dX10_findJoins_9 fk_RX10_28 rfl ?_
    refine am_iload_n dX10_findJoins_12 rfl ?_
    refine am_iconst (v := 0) dX10_findJoins_13 (by decide) ?_
    refine am_iast dX10_findJoins_14 (fun h4 => ?_)
    refine am_iinc (v := 1) (LL := fun y9 => [some (am_R l0), some (am_I y9), none, none]) dX10_findJoins_15 (by decide) rfl (by decide) (fun _ => rfl) (fun x5 => ?_)
    refine am_goto (tgt := 2) dX10_findJoins_18 (by decide) ?_
    exact am_weak (ih l0 x5 h4) ⟨rfl, ⟨rfl, trivial⟩⟩ (Nat.le_refl _) (Nat.le_refl _)
def fxX10_findJoins (l0 : Option Nat) (h : am_H) : Option (Int32 × am_H) := am_lt (0 : Int32) (fun x1 => fxX10_findJoins_b2 am_F l0 x1 h)
set_option maxRecDepth 100000 in
theorem sxX10_findJoins {xs : List Int32} (l0 : Option Nat) (h : am_H) : am_Sm xs am_ci mX10_findJoins 2 0 0 0 [some (am_R l0), none, none, none] [] h (fxX10_findJoins l0 h) := by
  unfold fxX10_findJoins
  refine am_iconst (v := 0) dX10_findJoins_0 (by decide) ?_
  refine am_istore_n (LL := fun y9 => [some (am_R l0), some (am_I y9), none, none]) dX10_findJoins_1 (by decide) (fun _ => rfl) (fun x1 => ?_)
  exact am_weak (sxX10_findJoins_b2 am_F l0 x1 h) ⟨rfl, ⟨rfl, trivial⟩⟩ (Nat.le_refl _) (Nat.le_refl _)
theorem txX10_findJoins {xs : List Int32} (l0 : Option Nat) (h : am_H) (a : Int32) (h2 : am_H) (e : fxX10_findJoins l0 h = some (a, h2)) : am_Ct xs mX10_findJoins 2 0 0 [am_R l0] h (fun v h3 => v = am_ci a ∧ h3 = h2) := am_meth okX10_findJoins (Nat.le_of_ble_eq_true rfl) rfl (sxX10_findJoins l0 h) e
theorem dX10_joins_0 : am_at cX10_joins 0 (.aload_n 0) 1 1 := by decide +kernel
theorem dX10_joins_1 : am_at cX10_joins 1 (.invokevirtual 210) 3 4 := by decide +kernel
theorem dX10_joins_4 : am_at cX10_joins 4 (.ireturn) 1 5 := by decide +kernel
def fxX10_joins (l0 : Option Nat) (h : am_H) : Option (Int32 × am_H) := am_gd (am_ob h l0 10) (am_bd (fxX10_findJoins l0 h) (fun r1 h2 => some (r1, h2)))
set_option maxRecDepth 100000 in
theorem sxX10_joins {xs : List Int32} (l0 : Option Nat) (h : am_H) : am_Sm xs am_ci mX10_joins 3 0 0 0 [some (am_R l0)] [] h (fxX10_joins l0 h) := by
  unfold fxX10_joins
  refine am_aload_n dX10_joins_0 rfl ?_
  refine am_callV (cvj := am_ci) (mtj := mX10_findJoins) (dj := 2) (nj := 0) (rcj := 0) (rsj := 0) (rc' := 0) (rs' := 0) (ci := 10) (st' := fun a9 => (am_I a9 :: [])) ⟨_, rfl, rfl⟩ [] [] dX10_joins_1 okX10_findJoins lk_RX10_210 (fun zA zH zE => txX10_findJoins l0 h zA zH zE) rfl (fun _ => rfl) (by decide) rfl (Nat.le_of_ble_eq_true rfl) (by decide) (by decide) (fun r1 h2 => ?_)
  exact am_iret dX10_joins_4 rfl rfl
theorem txX10_joins {xs : List Int32} (l0 : Option Nat) (h : am_H) (a : Int32) (h2 : am_H) (e : fxX10_joins l0 h = some (a, h2)) : am_Ct xs mX10_joins 3 0 0 [am_R l0] h (fun v h3 => v = am_ci a ∧ h3 = h2) := am_meth okX10_joins (Nat.le_of_ble_eq_true rfl) rfl (sxX10_joins l0 h) e
theorem dX10_sure_0 : am_at cX10_sure 0 (.iload_n 1) 1 1 := by decide +kernel
theorem dX10_sure_1 : am_at cX10_sure 1 (.invokestatic 198) 3 4 := by decide +kernel
theorem dX10_sure_4 : am_at cX10_sure 4 (.ifCond .ne 6) 3 7 := by decide +kernel
theorem dX10_sure_7 : am_at cX10_sure 7 (.ldc 93) 2 9 := by decide +kernel
theorem dX10_sure_9 : am_at cX10_sure 9 (.ireturn) 1 10 := by decide +kernel
theorem dX10_sure_10 : am_at cX10_sure 10 (.aload_n 0) 1 11 := by decide +kernel
theorem dX10_sure_11 : am_at cX10_sure 11 (.invokevirtual 210) 3 14 := by decide +kernel
theorem dX10_sure_14 : am_at cX10_sure 14 (.istore_n 2) 1 15 := by decide +kernel
theorem dX10_sure_15 : am_at cX10_sure 15 (.ldc 84) 2 17 := by decide +kernel
theorem dX10_sure_17 : am_at cX10_sure 17 (.istore_n 3) 1 18 := by decide +kernel
theorem dX10_sure_18 : am_at cX10_sure 18 (.iconst 0) 1 19 := by decide +kernel
theorem dX10_sure_19 : am_at cX10_sure 19 (.istore 4) 2 21 := by decide +kernel
theorem dX10_sure_21 : am_at cX10_sure 21 (.iload 4) 2 23 := by decide +kernel
theorem dX10_sure_23 : am_at cX10_sure 23 (.iconst 5) 1 24 := by decide +kernel
theorem dX10_sure_24 : am_at cX10_sure 24 (.if_icmp .ge 35) 3 27 := by decide +kernel
theorem dX10_sure_27 : am_at cX10_sure 27 (.iload_n 2) 1 28 := by decide +kernel
theorem dX10_sure_28 : am_at cX10_sure 28 (.ifCond .le 31) 3 31 := by decide +kernel
theorem dX10_sure_31 : am_at cX10_sure 31 (.aload_n 0) 1 32 := by decide +kernel
theorem dX10_sure_32 : am_at cX10_sure 32 (.getfield 28) 3 35 := by decide +kernel
theorem dX10_sure_35 : am_at cX10_sure 35 (.iconst 5) 1 36 := by decide +kernel
theorem dX10_sure_36 : am_at cX10_sure 36 (.iload_n 1) 1 37 := by decide +kernel
theorem dX10_sure_37 : am_at cX10_sure 37 (.imul) 1 38 := by decide +kernel
theorem dX10_sure_38 : am_at cX10_sure 38 (.iload 4) 2 40 := by decide +kernel
theorem dX10_sure_40 : am_at cX10_sure 40 (.iadd) 1 41 := by decide +kernel
theorem dX10_sure_41 : am_at cX10_sure 41 (.iaload) 1 42 := by decide +kernel
theorem dX10_sure_42 : am_at cX10_sure 42 (.iload_n 2) 1 43 := by decide +kernel
theorem dX10_sure_43 : am_at cX10_sure 43 (.if_icmp .ne 8) 3 46 := by decide +kernel
theorem dX10_sure_46 : am_at cX10_sure 46 (.iload 4) 2 48 := by decide +kernel
theorem dX10_sure_48 : am_at cX10_sure 48 (.goto 4) 3 51 := by decide +kernel
theorem dX10_sure_51 : am_at cX10_sure 51 (.iload_n 3) 1 52 := by decide +kernel
theorem dX10_sure_52 : am_at cX10_sure 52 (.istore_n 3) 1 53 := by decide +kernel
theorem dX10_sure_53 : am_at cX10_sure 53 (.iinc 4 1) 3 56 := by decide +kernel
theorem dX10_sure_56 : am_at cX10_sure 56 (.goto (-35)) 3 59 := by decide +kernel
theorem dX10_sure_59 : am_at cX10_sure 59 (.iload_n 3) 1 60 := by decide +kernel
theorem dX10_sure_60 : am_at cX10_sure 60 (.ireturn) 1 61 := by decide +kernel
def fxX10_sure_b52 (k21 : Option Nat → Int32 → Int32 → Int32 → Int32 → am_H → Option (Int32 × am_H)) (l0 : Option Nat) (l1 : Int32) (l2 : Int32) (l4 : Int32) (s0 : Int32) (h : am_H) : Option (Int32 × am_H) := am_lt s0 (fun x12 => am_lt (l4 + 1) (fun x13 => k21 l0 l1 l2 x12 x13 h))
set_option maxRecDepth 100000 in
theorem sxX10_sure_b52 {xs : List Int32} (k21 : Option Nat → Int32 → Int32 → Int32 → Int32 → am_H → Option (Int32 × am_H)) (hk21 : ∀ (l0 : Option Nat) (l1 : Int32) (l2 : Int32) (l3 : Int32) (l4 : Int32) (h : am_H), am_Sm xs am_ci mX10_sure 3 0 0 21 [some (am_R l0), some (am_I l1), some (am_I l2), some (am_I l3), some (am_I l4)] [] h (k21 l0 l1 l2 l3 l4 h)) (l0 : Option Nat) (l1 : Int32) (l2 : Int32) (l4 : Int32) (s0 : Int32) (h : am_H) : am_Sm xs am_ci mX10_sure 3 0 0 52 [some (am_R l0), some (am_I l1), some (am_I l2), none, some (am_I l4)] [am_I s0] h (fxX10_sure_b52 k21 l0 l1 l2 l4 s0 h) := by
  unfold fxX10_sure_b52
  refine am_istore_n (LL := fun y9 => [some (am_R l0), some (am_I l1), some (am_I l2), some (am_I y9), some (am_I l4)]) dX10_sure_52 (by decide) (fun _ => rfl) (fun x12 => ?_)
  refine am_iinc (v := 1) (LL := fun y9 => [some (am_R l0), some (am_I l1), some (am_I l2), some (am_I x12), some (am_I y9)]) dX10_sure_53 (by decide) rfl (by decide) (fun _ => rfl) (fun x13 => ?_)
  refine am_goto (tgt := 21) dX10_sure_56 (by decide) ?_
  exact am_weak (hk21 l0 l1 l2 x12 x13 h) ⟨rfl, ⟨rfl, ⟨rfl, ⟨rfl, ⟨rfl, trivial⟩⟩⟩⟩⟩ (Nat.le_refl _) (Nat.le_refl _)
def fxX10_sure_b21 : Nat → Option Nat → Int32 → Int32 → Int32 → Int32 → am_H → Option (Int32 × am_H)
  | 0, _, _, _, _, _, _ => none
  | n + 1, l0, l1, l2, l3, l4, h => if (5 : Int32) ≤ l4 then (some (l3, h)) else (if l2 ≤ 0 then (some (l3, h)) else (am_gd (am_ob h l0 10) (am_gd (am_ix h (am_gr h l0 7) 0 (((5 : Int32) * l1) + l4)) (if (am_gi h (am_gr h l0 7) (((5 : Int32) * l1) + l4).toNatClampNeg) = l2 then (fxX10_sure_b52 (fxX10_sure_b21 n) l0 l1 l2 l4 l4 h) else (fxX10_sure_b52 (fxX10_sure_b21 n) l0 l1 l2 l4 l3 h)))))
set_option maxRecDepth 100000 in
theorem sxX10_sure_b21 {xs : List Int32} : ∀ (n : Nat) (l0 : Option Nat) (l1 : Int32) (l2 : Int32) (l3 : Int32) (l4 : Int32) (h : am_H), am_Sm xs am_ci mX10_sure 3 0 0 21 [some (am_R l0), some (am_I l1), some (am_I l2), some (am_I l3), some (am_I l4)] [] h (fxX10_sure_b21 n l0 l1 l2 l3 l4 h) := by
  intro n
  induction n with
  | zero => intros; exact am_none
  | succ n ih =>
    intro l0 l1 l2 l3 l4 h
    rw [fxX10_sure_b21]
    refine am_iload dX10_sure_21 rfl ?_
    refine am_iconst (v := 5) dX10_sure_23 (by decide) ?_
    refine am_icmp_ge (tgt := 59) dX10_sure_24 (by decide) (fun c11 => ?_) (fun c11 => ?_)
    · refine am_iload_n dX10_sure_59 rfl ?_
      exact am_iret dX10_sure_60 rfl rfl
    refine am_iload_n dX10_sure_27 rfl ?_
    refine am_if_le (tgt := 59) dX10_sure_28 (by decide) (fun c10 => ?_) (fun c10 => ?_)
    · refine am_iload_n dX10_sure_59 rfl ?_
      exact am_iret dX10_sure_60 rfl rfl
    refine am_aload_n dX10_sure_31 rfl ?_
    refine am_getR dX10_sure_32 fk_RX10_28 rfl ?_
    refine am_iconst (v := 5) dX10_sure_35 (by decide) ?_
    refine am_iload_n dX10_sure_36 rfl ?_
    refine am_imul dX10_sure_37 ?_
    refine am_iload dX10_sure_38 rfl ?_
    refine am_iadd dX10_sure_40 ?_
    refine am_iald dX10_sure_41 ?_
    refine am_iload_n dX10_sure_42 rfl ?_
    refine am_icmp_ne (tgt := 51) dX10_sure_43 (by decide) (fun c9 => ?_) (fun c9 => ?_)
    · refine am_iload_n dX10_sure_51 rfl ?_
      exact am_weak (sxX10_sure_b52 (fxX10_sure_b21 n) ih l0 l1 l2 l4 l3 h) ⟨rfl, ⟨rfl, ⟨rfl, ⟨rfl, trivial⟩⟩⟩⟩ (Nat.le_refl _) (Nat.le_refl _)
    refine am_iload dX10_sure_46 rfl ?_
    refine am_goto (tgt := 52) dX10_sure_48 (by decide) ?_
    exact am_weak (sxX10_sure_b52 (fxX10_sure_b21 n) ih l0 l1 l2 l4 l4 h) ⟨rfl, ⟨rfl, ⟨rfl, ⟨rfl, trivial⟩⟩⟩⟩ (Nat.le_refl _) (Nat.le_refl _)
def fxX10_sure (l0 : Option Nat) (l1 : Int32) (h : am_H) : Option (Int32 × am_H) := am_bd (fxX10_isWord l1 h) (fun r1 h2 => if r1 = 0 then (some ((-1000000001 : Int32), h2)) else (am_gd (am_ob h2 l0 10) (am_bd (fxX10_findJoins l0 h2) (fun r3 h4 => am_lt r3 (fun x5 => am_lt (-1000000005 : Int32) (fun x6 => am_lt (0 : Int32) (fun x7 => fxX10_sure_b21 am_F l0 l1 x5 x6 x7 h4)))))))
set_option maxRecDepth 100000 in
theorem sxX10_sure {xs : List Int32} (l0 : Option Nat) (l1 : Int32) (h : am_H) : am_Sm xs am_ci mX10_sure 3 0 0 0 [some (am_R l0), some (am_I l1), none, none, none] [] h (fxX10_sure l0 l1 h) := by
  unfold fxX10_sure
  refine am_iload_n dX10_sure_0 rfl ?_
  refine am_callS (cvj := am_ci) (mtj := mX10_isWord) (dj := 1) (nj := 1) (rcj := 0) (rsj := 0) (rc' := 0) (rs' := 0) (st' := fun a9 => (am_I a9 :: [])) [am_I l1] [] dX10_sure_1 okX10_isWord lk_RX10_198 (fun zA zH zE => txX10_isWord l1 h zA zH zE) rfl (fun _ => rfl) (by decide) rfl (Nat.le_of_ble_eq_true rfl) (by decide) (by decide) (fun r1 h2 => ?_)
  refine am_if_ne (tgt := 10) dX10_sure_4 (by decide) (fun c8 => ?_) (fun c8 => ?_)
  · refine am_aload_n dX10_sure_10 rfl ?_
    refine am_callV (cvj := am_ci) (mtj := mX10_findJoins) (dj := 2) (nj := 0) (rcj := 0) (rsj := 0) (rc' := 0) (rs' := 0) (ci := 10) (st' := fun a9 => (am_I a9 :: [])) ⟨_, rfl, rfl⟩ [] [] dX10_sure_11 okX10_findJoins lk_RX10_210 (fun zA zH zE => txX10_findJoins l0 h2 zA zH zE) rfl (fun _ => rfl) (by decide) rfl (Nat.le_of_ble_eq_true rfl) (by decide) (by decide) (fun r3 h4 => ?_)
    refine am_istore_n (LL := fun y9 => [some (am_R l0), some (am_I l1), some (am_I y9), none, none]) dX10_sure_14 (by decide) (fun _ => rfl) (fun x5 => ?_)
    refine am_ldc (v := (-1000000005)) dX10_sure_15 wd1143 ?_
    refine am_istore_n (LL := fun y9 => [some (am_R l0), some (am_I l1), some (am_I x5), some (am_I y9), none]) dX10_sure_17 (by decide) (fun _ => rfl) (fun x6 => ?_)
    refine am_iconst (v := 0) dX10_sure_18 (by decide) ?_
    refine am_istore (LL := fun y9 => [some (am_R l0), some (am_I l1), some (am_I x5), some (am_I x6), some (am_I y9)]) dX10_sure_19 (by decide) (fun _ => rfl) (fun x7 => ?_)
    exact am_weak (sxX10_sure_b21 am_F l0 l1 x5 x6 x7 h4) ⟨rfl, ⟨rfl, ⟨rfl, ⟨rfl, ⟨rfl, trivial⟩⟩⟩⟩⟩ (Nat.le_refl _) (Nat.le_refl _)
  refine am_ldc (v := (-1000000001)) dX10_sure_7 wd1060 ?_
  exact am_iret dX10_sure_9 rfl rfl
theorem txX10_sure {xs : List Int32} (l0 : Option Nat) (l1 : Int32) (h : am_H) (a : Int32) (h2 : am_H) (e : fxX10_sure l0 l1 h = some (a, h2)) : am_Ct xs mX10_sure 3 0 0 [am_R l0, am_I l1] h (fun v h3 => v = am_ci a ∧ h3 = h2) := am_meth okX10_sure (Nat.le_of_ble_eq_true rfl) rfl (sxX10_sure l0 l1 h) e
theorem dX10_better_0 : am_at cX10_better 0 (.iload_n 1) 1 1 := by decide +kernel
theorem dX10_better_1 : am_at cX10_better 1 (.iconst 0) 1 2 := by decide +kernel
theorem dX10_better_2 : am_at cX10_better 2 (.iconst 1) 1 3 := by decide +kernel
theorem dX10_better_3 : am_at cX10_better 3 (.invokestatic 85) 3 6 := by decide +kernel
theorem dX10_better_6 : am_at cX10_better 6 (.ifCond .ne 6) 3 9 := by decide +kernel
theorem dX10_better_9 : am_at cX10_better 9 (.ldc 93) 2 11 := by decide +kernel
theorem dX10_better_11 : am_at cX10_better 11 (.ireturn) 1 12 := by decide +kernel
theorem dX10_better_12 : am_at cX10_better 12 (.aload_n 0) 1 13 := by decide +kernel
theorem dX10_better_13 : am_at cX10_better 13 (.invokevirtual 210) 3 16 := by decide +kernel
theorem dX10_better_16 : am_at cX10_better 16 (.ifCond .ne 6) 3 19 := by decide +kernel
theorem dX10_better_19 : am_at cX10_better 19 (.ldc 84) 2 21 := by decide +kernel
theorem dX10_better_21 : am_at cX10_better 21 (.ireturn) 1 22 := by decide +kernel
theorem dX10_better_22 : am_at cX10_better 22 (.iconst (-1)) 1 23 := by decide +kernel
theorem dX10_better_23 : am_at cX10_better 23 (.istore_n 2) 1 24 := by decide +kernel
theorem dX10_better_24 : am_at cX10_better 24 (.iconst 0) 1 25 := by decide +kernel
theorem dX10_better_25 : am_at cX10_better 25 (.istore_n 3) 1 26 := by decide +kernel
theorem dX10_better_26 : am_at cX10_better 26 (.iconst 0) 1 27 := by decide +kernel
theorem dX10_better_27 : am_at cX10_better 27 (.istore 4) 2 29 := by decide +kernel
theorem dX10_better_29 : am_at cX10_better 29 (.iload 4) 2 31 := by decide +kernel
theorem dX10_better_31 : am_at cX10_better 31 (.iconst 5) 1 32 := by decide +kernel
theorem dX10_better_32 : am_at cX10_better 32 (.if_icmp .ge 93) 3 35 := by decide +kernel
theorem dX10_better_35 : am_at cX10_better 35 (.iconst 0) 1 36 := by decide +kernel
theorem dX10_better_36 : am_at cX10_better 36 (.istore 5) 2 38 := by decide +kernel
theorem dX10_better_38 : am_at cX10_better 38 (.iconst 0) 1 39 := by decide +kernel
theorem dX10_better_39 : am_at cX10_better 39 (.istore 6) 2 41 := by decide +kernel
theorem dX10_better_41 : am_at cX10_better 41 (.iload 6) 2 43 := by decide +kernel
theorem dX10_better_43 : am_at cX10_better 43 (.iconst 5) 1 44 := by decide +kernel
theorem dX10_better_44 : am_at cX10_better 44 (.if_icmp .ge 45) 3 47 := by decide +kernel
theorem dX10_better_47 : am_at cX10_better 47 (.aload_n 0) 1 48 := by decide +kernel
theorem dX10_better_48 : am_at cX10_better 48 (.getfield 28) 3 51 := by decide +kernel
theorem dX10_better_51 : am_at cX10_better 51 (.iconst 5) 1 52 := by decide +kernel
theorem dX10_better_52 : am_at cX10_better 52 (.iload 4) 2 54 := by decide +kernel
theorem dX10_better_54 : am_at cX10_better 54 (.imul) 1 55 := by decide +kernel
theorem dX10_better_55 : am_at cX10_better 55 (.iload 6) 2 57 := by decide +kernel
theorem dX10_better_57 : am_at cX10_better 57 (.iadd) 1 58 := by decide +kernel
theorem dX10_better_58 : am_at cX10_better 58 (.iaload) 1 59 := by decide +kernel
theorem dX10_better_59 : am_at cX10_better 59 (.iload 5) 2 61 := by decide +kernel
theorem dX10_better_61 : am_at cX10_better 61 (.if_icmp .le 18) 3 64 := by decide +kernel
theorem dX10_better_64 : am_at cX10_better 64 (.aload_n 0) 1 65 := by decide +kernel
theorem dX10_better_65 : am_at cX10_better 65 (.getfield 28) 3 68 := by decide +kernel
theorem dX10_better_68 : am_at cX10_better 68 (.iconst 5) 1 69 := by decide +kernel
theorem dX10_better_69 : am_at cX10_better 69 (.iload 4) 2 71 := by decide +kernel
theorem dX10_better_71 : am_at cX10_better 71 (.imul) 1 72 := by decide +kernel
theorem dX10_better_72 : am_at cX10_better 72 (.iload 6) 2 74 := by decide +kernel
theorem dX10_better_74 : am_at cX10_better 74 (.iadd) 1 75 := by decide +kernel
theorem dX10_better_75 : am_at cX10_better 75 (.iaload) 1 76 := by decide +kernel
theorem dX10_better_76 : am_at cX10_better 76 (.goto 5) 3 79 := by decide +kernel
theorem dX10_better_79 : am_at cX10_better 79 (.iload 5) 2 81 := by decide +kernel
theorem dX10_better_81 : am_at cX10_better 81 (.istore 5) 2 83 := by decide +kernel
theorem dX10_better_83 : am_at cX10_better 83 (.iinc 6 1) 3 86 := by decide +kernel
theorem dX10_better_86 : am_at cX10_better 86 (.goto (-45)) 3 89 := by decide +kernel
theorem dX10_better_89 : am_at cX10_better 89 (.iload_n 2) 1 90 := by decide +kernel
theorem dX10_better_90 : am_at cX10_better 90 (.ifCond .lt 9) 3 93 := by decide +kernel
theorem dX10_better_93 : am_at cX10_better 93 (.iload 5) 2 95 := by decide +kernel
theorem dX10_better_95 : am_at cX10_better 95 (.iload_n 3) 1 96 := by decide +kernel
theorem dX10_better_96 : am_at cX10_better 96 (.if_icmp .ge 8) 3 99 := by decide +kernel
theorem dX10_better_99 : am_at cX10_better 99 (.iload 4) 2 101 := by decide +kernel
theorem dX10_better_101 : am_at cX10_better 101 (.goto 4) 3 104 := by decide +kernel
theorem dX10_better_104 : am_at cX10_better 104 (.iload_n 2) 1 105 := by decide +kernel
theorem dX10_better_105 : am_at cX10_better 105 (.istore_n 2) 1 106 := by decide +kernel
theorem dX10_better_106 : am_at cX10_better 106 (.iload_n 2) 1 107 := by decide +kernel
theorem dX10_better_107 : am_at cX10_better 107 (.iload 4) 2 109 := by decide +kernel
theorem dX10_better_109 : am_at cX10_better 109 (.if_icmp .ne 8) 3 112 := by decide +kernel
theorem dX10_better_112 : am_at cX10_better 112 (.iload 5) 2 114 := by decide +kernel
theorem dX10_better_114 : am_at cX10_better 114 (.goto 4) 3 117 := by decide +kernel
theorem dX10_better_117 : am_at cX10_better 117 (.iload_n 3) 1 118 := by decide +kernel
theorem dX10_better_118 : am_at cX10_better 118 (.istore_n 3) 1 119 := by decide +kernel
theorem dX10_better_119 : am_at cX10_better 119 (.iinc 4 1) 3 122 := by decide +kernel
theorem dX10_better_122 : am_at cX10_better 122 (.goto (-93)) 3 125 := by decide +kernel
theorem dX10_better_125 : am_at cX10_better 125 (.iload_n 1) 1 126 := by decide +kernel
theorem dX10_better_126 : am_at cX10_better 126 (.ifCond .ne 7) 3 129 := by decide +kernel
theorem dX10_better_129 : am_at cX10_better 129 (.iload_n 2) 1 130 := by decide +kernel
theorem dX10_better_130 : am_at cX10_better 130 (.goto 4) 3 133 := by decide +kernel
theorem dX10_better_133 : am_at cX10_better 133 (.iload_n 3) 1 134 := by decide +kernel
theorem dX10_better_134 : am_at cX10_better 134 (.ireturn) 1 135 := by decide +kernel
def fxX10_better_b81 (k29 : Option Nat → Int32 → Int32 → Int32 → Int32 → am_H → Option (Int32 × am_H)) (k41 : Option Nat → Int32 → Int32 → Int32 → Int32 → Int32 → Int32 → am_H → Option (Int32 × am_H)) (l0 : Option Nat) (l1 : Int32) (l2 : Int32) (l3 : Int32) (l4 : Int32) (l6 : Int32) (s0 : Int32) (h : am_H) : Option (Int32 × am_H) := am_lt s0 (fun x20 => am_lt (l6 + 1) (fun x21 => k41 l0 l1 l2 l3 l4 x20 x21 h))
set_option maxRecDepth 100000 in
theorem sxX10_better_b81 {xs : List Int32} (k29 : Option Nat → Int32 → Int32 → Int32 → Int32 → am_H → Option (Int32 × am_H)) (hk29 : ∀ (l0 : Option Nat) (l1 : Int32) (l2 : Int32) (l3 : Int32) (l4 : Int32) (h : am_H), am_Sm xs am_ci mX10_better 3 0 0 29 [some (am_R l0), some (am_I l1), some (am_I l2), some (am_I l3), some (am_I l4), none, none] [] h (k29 l0 l1 l2 l3 l4 h)) (k41 : Option Nat → Int32 → Int32 → Int32 → Int32 → Int32 → Int32 → am_H → Option (Int32 × am_H)) (hk41 : ∀ (l0 : Option Nat) (l1 : Int32) (l2 : Int32) (l3 : Int32) (l4 : Int32) (l5 : Int32) (l6 : Int32) (h : am_H), am_Sm xs am_ci mX10_better 3 0 0 41 [some (am_R l0), some (am_I l1), some (am_I l2), some (am_I l3), some (am_I l4), some (am_I l5), some (am_I l6)] [] h (k41 l0 l1 l2 l3 l4 l5 l6 h)) (l0 : Option Nat) (l1 : Int32) (l2 : Int32) (l3 : Int32) (l4 : Int32) (l6 : Int32) (s0 : Int32) (h : am_H) : am_Sm xs am_ci mX10_better 3 0 0 81 [some (am_R l0), some (am_I l1), some (am_I l2), some (am_I l3), some (am_I l4), none, some (am_I l6)] [am_I s0] h (fxX10_better_b81 k29 k41 l0 l1 l2 l3 l4 l6 s0 h) := by
  unfold fxX10_better_b81
  refine am_istore (LL := fun y9 => [some (am_R l0), some (am_I l1), some (am_I l2), some (am_I l3), some (am_I l4), some (am_I y9), some (am_I l6)]) dX10_better_81 (by decide) (fun _ => rfl) (fun x20 => ?_)
  refine am_iinc (v := 1) (LL := fun y9 => [some (am_R l0), some (am_I l1), some (am_I l2), some (am_I l3), some (am_I l4), some (am_I x20), some (am_I y9)]) dX10_better_83 (by decide) rfl (by decide) (fun _ => rfl) (fun x21 => ?_)
  refine am_goto (tgt := 41) dX10_better_86 (by decide) ?_
  exact am_weak (hk41 l0 l1 l2 l3 l4 x20 x21 h) ⟨rfl, ⟨rfl, ⟨rfl, ⟨rfl, ⟨rfl, ⟨rfl, ⟨rfl, trivial⟩⟩⟩⟩⟩⟩⟩ (Nat.le_refl _) (Nat.le_refl _)
def fxX10_better_b118 (k29 : Option Nat → Int32 → Int32 → Int32 → Int32 → am_H → Option (Int32 × am_H)) (l0 : Option Nat) (l1 : Int32) (l2 : Int32) (l4 : Int32) (s0 : Int32) (h : am_H) : Option (Int32 × am_H) := am_lt s0 (fun x22 => am_lt (l4 + 1) (fun x23 => k29 l0 l1 l2 x22 x23 h))
set_option maxRecDepth 100000 in
theorem sxX10_better_b118 {xs : List Int32} (k29 : Option Nat → Int32 → Int32 → Int32 → Int32 → am_H → Option (Int32 × am_H)) (hk29 : ∀ (l0 : Option Nat) (l1 : Int32) (l2 : Int32) (l3 : Int32) (l4 : Int32) (h : am_H), am_Sm xs am_ci mX10_better 3 0 0 29 [some (am_R l0), some (am_I l1), some (am_I l2), some (am_I l3), some (am_I l4), none, none] [] h (k29 l0 l1 l2 l3 l4 h)) (l0 : Option Nat) (l1 : Int32) (l2 : Int32) (l4 : Int32) (s0 : Int32) (h : am_H) : am_Sm xs am_ci mX10_better 3 0 0 118 [some (am_R l0), some (am_I l1), some (am_I l2), none, some (am_I l4), none, none] [am_I s0] h (fxX10_better_b118 k29 l0 l1 l2 l4 s0 h) := by
  unfold fxX10_better_b118
  refine am_istore_n (LL := fun y9 => [some (am_R l0), some (am_I l1), some (am_I l2), some (am_I y9), some (am_I l4), none, none]) dX10_better_118 (by decide) (fun _ => rfl) (fun x22 => ?_)
  refine am_iinc (v := 1) (LL := fun y9 => [some (am_R l0), some (am_I l1), some (am_I l2), some (am_I x22), some (am_I y9), none, none]) dX10_better_119 (by decide) rfl (by decide) (fun _ => rfl) (fun x23 => ?_)
  refine am_goto (tgt := 29) dX10_better_122 (by decide) ?_
  exact am_weak (hk29 l0 l1 l2 x22 x23 h) ⟨rfl, ⟨rfl, ⟨rfl, ⟨rfl, ⟨rfl, trivial⟩⟩⟩⟩⟩ (Nat.le_refl _) (Nat.le_refl _)
def fxX10_better_b105 (k29 : Option Nat → Int32 → Int32 → Int32 → Int32 → am_H → Option (Int32 × am_H)) (l0 : Option Nat) (l1 : Int32) (l3 : Int32) (l4 : Int32) (l5 : Int32) (s0 : Int32) (h : am_H) : Option (Int32 × am_H) := am_lt s0 (fun x18 => if x18 = l4 then (fxX10_better_b118 k29 l0 l1 x18 l4 l5 h) else (fxX10_better_b118 k29 l0 l1 x18 l4 l3 h))
set_option maxRecDepth 100000 in
theorem sxX10_better_b105 {xs : List Int32} (k29 : Option Nat → Int32 → Int32 → Int32 → Int32 → am_H → Option (Int32 × am_H)) (hk29 : ∀ (l0 : Option Nat) (l1 : Int32) (l2 : Int32) (l3 : Int32) (l4 : Int32) (h : am_H), am_Sm xs am_ci mX10_better 3 0 0 29 [some (am_R l0), some (am_I l1), some (am_I l2), some (am_I l3), some (am_I l4), none, none] [] h (k29 l0 l1 l2 l3 l4 h)) (l0 : Option Nat) (l1 : Int32) (l3 : Int32) (l4 : Int32) (l5 : Int32) (s0 : Int32) (h : am_H) : am_Sm xs am_ci mX10_better 3 0 0 105 [some (am_R l0), some (am_I l1), none, some (am_I l3), some (am_I l4), some (am_I l5), none] [am_I s0] h (fxX10_better_b105 k29 l0 l1 l3 l4 l5 s0 h) := by
  unfold fxX10_better_b105
  refine am_istore_n (LL := fun y9 => [some (am_R l0), some (am_I l1), some (am_I y9), some (am_I l3), some (am_I l4), some (am_I l5), none]) dX10_better_105 (by decide) (fun _ => rfl) (fun x18 => ?_)
  refine am_iload_n dX10_better_106 rfl ?_
  refine am_iload dX10_better_107 rfl ?_
  refine am_icmp_ne (tgt := 117) dX10_better_109 (by decide) (fun c19 => ?_) (fun c19 => ?_)
  · refine am_iload_n dX10_better_117 rfl ?_
    exact am_weak (sxX10_better_b118 k29 hk29 l0 l1 x18 l4 l3 h) ⟨rfl, ⟨rfl, ⟨rfl, ⟨rfl, trivial⟩⟩⟩⟩ (Nat.le_refl _) (Nat.le_refl _)
  refine am_iload dX10_better_112 rfl ?_
  refine am_goto (tgt := 118) dX10_better_114 (by decide) ?_
  exact am_weak (sxX10_better_b118 k29 hk29 l0 l1 x18 l4 l5 h) ⟨rfl, ⟨rfl, ⟨rfl, ⟨rfl, trivial⟩⟩⟩⟩ (Nat.le_refl _) (Nat.le_refl _)
def fxX10_better_b99 (k29 : Option Nat → Int32 → Int32 → Int32 → Int32 → am_H → Option (Int32 × am_H)) (l0 : Option Nat) (l1 : Int32) (l3 : Int32) (l4 : Int32) (l5 : Int32) (h : am_H) : Option (Int32 × am_H) := fxX10_better_b105 k29 l0 l1 l3 l4 l5 l4 h
set_option maxRecDepth 100000 in
theorem sxX10_better_b99 {xs : List Int32} (k29 : Option Nat → Int32 → Int32 → Int32 → Int32 → am_H → Option (Int32 × am_H)) (hk29 : ∀ (l0 : Option Nat) (l1 : Int32) (l2 : Int32) (l3 : Int32) (l4 : Int32) (h : am_H), am_Sm xs am_ci mX10_better 3 0 0 29 [some (am_R l0), some (am_I l1), some (am_I l2), some (am_I l3), some (am_I l4), none, none] [] h (k29 l0 l1 l2 l3 l4 h)) (l0 : Option Nat) (l1 : Int32) (l3 : Int32) (l4 : Int32) (l5 : Int32) (h : am_H) : am_Sm xs am_ci mX10_better 3 0 0 99 [some (am_R l0), some (am_I l1), none, some (am_I l3), some (am_I l4), some (am_I l5), none] [] h (fxX10_better_b99 k29 l0 l1 l3 l4 l5 h) := by
  unfold fxX10_better_b99
  refine am_iload dX10_better_99 rfl ?_
  refine am_goto (tgt := 105) dX10_better_101 (by decide) ?_
  exact am_weak (sxX10_better_b105 k29 hk29 l0 l1 l3 l4 l5 l4 h) ⟨rfl, ⟨rfl, ⟨rfl, ⟨rfl, ⟨rfl, trivial⟩⟩⟩⟩⟩ (Nat.le_refl _) (Nat.le_refl _)
def fxX10_better_b41 (k29 : Option Nat → Int32 → Int32 → Int32 → Int32 → am_H → Option (Int32 × am_H)) : Nat → Option Nat → Int32 → Int32 → Int32 → Int32 → Int32 → Int32 → am_H → Option (Int32 × am_H)
  | 0, _, _, _, _, _, _, _, _ => none
  | n + 1, l0, l1, l2, l3, l4, l5, l6, h => if (5 : Int32) ≤ l6 then (if l2 < 0 then (fxX10_better_b99 k29 l0 l1 l3 l4 l5 h) else (if l3 ≤ l5 then (fxX10_better_b105 k29 l0 l1 l3 l4 l5 l2 h) else (fxX10_better_b99 k29 l0 l1 l3 l4 l5 h))) else (am_gd (am_ob h l0 10) (am_gd (am_ix h (am_gr h l0 7) 0 (((5 : Int32) * l4) + l6)) (if (am_gi h (am_gr h l0 7) (((5 : Int32) * l4) + l6).toNatClampNeg) ≤ l5 then (fxX10_better_b81 k29 (fxX10_better_b41 k29 n) l0 l1 l2 l3 l4 l6 l5 h) else (am_gd (am_ob h l0 10) (am_gd (am_ix h (am_gr h l0 7) 0 (((5 : Int32) * l4) + l6)) (fxX10_better_b81 k29 (fxX10_better_b41 k29 n) l0 l1 l2 l3 l4 l6 (am_gi h (am_gr h l0 7) (((5 : Int32) * l4) + l6).toNatClampNeg) h))))))
set_option maxRecDepth 100000 in
theorem sxX10_better_b41 {xs : List Int32} (k29 : Option Nat → Int32 → Int32 → Int32 → Int32 → am_H → Option (Int32 × am_H)) (hk29 : ∀ (l0 : Option Nat) (l1 : Int32) (l2 : Int32) (l3 : Int32) (l4 : Int32) (h : am_H), am_Sm xs am_ci mX10_better 3 0 0 29 [some (am_R l0), some (am_I l1), some (am_I l2), some (am_I l3), some (am_I l4), none, none] [] h (k29 l0 l1 l2 l3 l4 h)) : ∀ (n : Nat) (l0 : Option Nat) (l1 : Int32) (l2 : Int32) (l3 : Int32) (l4 : Int32) (l5 : Int32) (l6 : Int32) (h : am_H), am_Sm xs am_ci mX10_better 3 0 0 41 [some (am_R l0), some (am_I l1), some (am_I l2), some (am_I l3), some (am_I l4), some (am_I l5), some (am_I l6)] [] h (fxX10_better_b41 k29 n l0 l1 l2 l3 l4 l5 l6 h) := by
  intro n
  induction n with
  | zero => intros; exact am_none
  | succ n ih =>
    intro l0 l1 l2 l3 l4 l5 l6 h
    rw [fxX10_better_b41]
    refine am_iload dX10_better_41 rfl ?_
    refine am_iconst (v := 5) dX10_better_43 (by decide) ?_
    refine am_icmp_ge (tgt := 89) dX10_better_44 (by decide) (fun c17 => ?_) (fun c17 => ?_)
    · refine am_iload_n dX10_better_89 rfl ?_
      refine am_if_lt (tgt := 99) dX10_better_90 (by decide) (fun c15 => ?_) (fun c15 => ?_)
      · exact am_weak (sxX10_better_b99 k29 hk29 l0 l1 l3 l4 l5 h) ⟨rfl, ⟨rfl, ⟨rfl, ⟨rfl, ⟨rfl, trivial⟩⟩⟩⟩⟩ (Nat.le_refl _) (Nat.le_refl _)
      refine am_iload dX10_better_93 rfl ?_
      refine am_iload_n dX10_better_95 rfl ?_
      refine am_icmp_ge (tgt := 104) dX10_better_96 (by decide) (fun c14 => ?_) (fun c14 => ?_)
      · refine am_iload_n dX10_better_104 rfl ?_
        exact am_weak (sxX10_better_b105 k29 hk29 l0 l1 l3 l4 l5 l2 h) ⟨rfl, ⟨rfl, ⟨rfl, ⟨rfl, ⟨rfl, trivial⟩⟩⟩⟩⟩ (Nat.le_refl _) (Nat.le_refl _)
      exact am_weak (sxX10_better_b99 k29 hk29 l0 l1 l3 l4 l5 h) ⟨rfl, ⟨rfl, ⟨rfl, ⟨rfl, ⟨rfl, trivial⟩⟩⟩⟩⟩ (Nat.le_refl _) (Nat.le_refl _)
    refine am_aload_n dX10_better_47 rfl ?_
    refine am_getR dX10_better_48 fk_RX10_28 rfl ?_
    refine am_iconst (v := 5) dX10_better_51 (by decide) ?_
    refine am_iload dX10_better_52 rfl ?_
    refine am_imul dX10_better_54 ?_
    refine am_iload dX10_better_55 rfl ?_
    refine am_iadd dX10_better_57 ?_
    refine am_iald dX10_better_58 ?_
    refine am_iload dX10_better_59 rfl ?_
    refine am_icmp_le (tgt := 79) dX10_better_61 (by decide) (fun c16 => ?_) (fun c16 => ?_)
    · refine am_iload dX10_better_79 rfl ?_
      exact am_weak (sxX10_better_b81 k29 hk29 (fxX10_better_b41 k29 n) ih l0 l1 l2 l3 l4 l6 l5 h) ⟨rfl, ⟨rfl, ⟨rfl, ⟨rfl, ⟨rfl, ⟨rfl, trivial⟩⟩⟩⟩⟩⟩ (Nat.le_refl _) (Nat.le_refl _)
    refine am_aload_n dX10_better_64 rfl ?_
    refine am_getR dX10_better_65 fk_RX10_28 rfl ?_
    refine am_iconst (v := 5) dX10_better_68 (by decide) ?_
    refine am_iload dX10_better_69 rfl ?_
    refine am_imul dX10_better_71 ?_
    refine am_iload dX10_better_72 rfl ?_
    refine am_iadd dX10_better_74 ?_
    refine am_iald dX10_better_75 ?_
    refine am_goto (tgt := 81) dX10_better_76 (by decide) ?_
    exact am_weak (sxX10_better_b81 k29 hk29 (fxX10_better_b41 k29 n) ih l0 l1 l2 l3 l4 l6 (am_gi h (am_gr h l0 7) (((5 : Int32) * l4) + l6).toNatClampNeg) h) ⟨rfl, ⟨rfl, ⟨rfl, ⟨rfl, ⟨rfl, ⟨rfl, trivial⟩⟩⟩⟩⟩⟩ (Nat.le_refl _) (Nat.le_refl _)
def fxX10_better_b29 : Nat → Option Nat → Int32 → Int32 → Int32 → Int32 → am_H → Option (Int32 × am_H)
  | 0, _, _, _, _, _, _ => none
  | n + 1, l0, l1, l2, l3, l4, h => if (5 : Int32) ≤ l4 then (if l1 = 0 then (some (l2, h)) else (some (l3, h))) else (am_lt (0 : Int32) (fun x11 => am_lt (0 : Int32) (fun x12 => fxX10_better_b41 (fxX10_better_b29 n) am_F l0 l1 l2 l3 l4 x11 x12 h)))
set_option maxRecDepth 100000 in
theorem sxX10_better_b29 {xs : List Int32} : ∀ (n : Nat) (l0 : Option Nat) (l1 : Int32) (l2 : Int32) (l3 : Int32) (l4 : Int32) (h : am_H), am_Sm xs am_ci mX10_better 3 0 0 29 [some (am_R l0), some (am_I l1), some (am_I l2), some (am_I l3), some (am_I l4), none, none] [] h (fxX10_better_b29 n l0 l1 l2 l3 l4 h) := by
  intro n
  induction n with
  | zero => intros; exact am_none
  | succ n ih =>
    intro l0 l1 l2 l3 l4 h
    rw [fxX10_better_b29]
    refine am_iload dX10_better_29 rfl ?_
    refine am_iconst (v := 5) dX10_better_31 (by decide) ?_
    refine am_icmp_ge (tgt := 125) dX10_better_32 (by decide) (fun c13 => ?_) (fun c13 => ?_)
    · refine am_iload_n dX10_better_125 rfl ?_
      refine am_if_ne (tgt := 133) dX10_better_126 (by decide) (fun c10 => ?_) (fun c10 => ?_)
      · refine am_iload_n dX10_better_133 rfl ?_
        exact am_iret dX10_better_134 rfl rfl
      refine am_iload_n dX10_better_129 rfl ?_
      refine am_goto (tgt := 134) dX10_better_130 (by decide) ?_
      exact am_iret dX10_better_134 rfl rfl
    refine am_iconst (v := 0) dX10_better_35 (by decide) ?_
    refine am_istore (LL := fun y9 => [some (am_R l0), some (am_I l1), some (am_I l2), some (am_I l3), some (am_I l4), some (am_I y9), none]) dX10_better_36 (by decide) (fun _ => rfl) (fun x11 => ?_)
    refine am_iconst (v := 0) dX10_better_38 (by decide) ?_
    refine am_istore (LL := fun y9 => [some (am_R l0), some (am_I l1), some (am_I l2), some (am_I l3), some (am_I l4), some (am_I x11), some (am_I y9)]) dX10_better_39 (by decide) (fun _ => rfl) (fun x12 => ?_)
    exact am_weak (sxX10_better_b41 (fxX10_better_b29 n) ih am_F l0 l1 l2 l3 l4 x11 x12 h) ⟨rfl, ⟨rfl, ⟨rfl, ⟨rfl, ⟨rfl, ⟨rfl, ⟨rfl, trivial⟩⟩⟩⟩⟩⟩⟩ (Nat.le_refl _) (Nat.le_refl _)
def fxX10_better (l0 : Option Nat) (l1 : Int32) (h : am_H) : Option (Int32 × am_H) := am_bd (fxX10_in l1 (0 : Int32) (1 : Int32) h) (fun r1 h2 => if r1 = 0 then (some ((-1000000001 : Int32), h2)) else (am_gd (am_ob h2 l0 10) (am_bd (fxX10_findJoins l0 h2) (fun r3 h4 => if r3 = 0 then (some ((-1000000005 : Int32), h4)) else (am_lt (-1 : Int32) (fun x5 => am_lt (0 : Int32) (fun x6 => am_lt (0 : Int32) (fun x7 => fxX10_better_b29 am_F l0 l1 x5 x6 x7 h4))))))))
set_option maxRecDepth 100000 in
theorem sxX10_better {xs : List Int32} (l0 : Option Nat) (l1 : Int32) (h : am_H) : am_Sm xs am_ci mX10_better 3 0 0 0 [some (am_R l0), some (am_I l1), none, none, none, none, none] [] h (fxX10_better l0 l1 h) := by
  unfold fxX10_better
  refine am_iload_n dX10_better_0 rfl ?_
  refine am_iconst (v := 0) dX10_better_1 (by decide) ?_
  refine am_iconst (v := 1) dX10_better_2 (by decide) ?_
  refine am_callS (cvj := am_ci) (mtj := mX10_in) (dj := 0) (nj := 3) (rcj := 0) (rsj := 0) (rc' := 0) (rs' := 0) (st' := fun a9 => (am_I a9 :: [])) [am_I l1, am_I (0 : Int32), am_I (1 : Int32)] [] dX10_better_3 okX10_in lk_RX10_85 (fun zA zH zE => txX10_in l1 (0 : Int32) (1 : Int32) h zA zH zE) rfl (fun _ => rfl) (by decide) rfl (Nat.le_of_ble_eq_true rfl) (by decide) (by decide) (fun r1 h2 => ?_)
  refine am_if_ne (tgt := 12) dX10_better_6 (by decide) (fun c9 => ?_) (fun c9 => ?_)
  · refine am_aload_n dX10_better_12 rfl ?_
    refine am_callV (cvj := am_ci) (mtj := mX10_findJoins) (dj := 2) (nj := 0) (rcj := 0) (rsj := 0) (rc' := 0) (rs' := 0) (ci := 10) (st' := fun a9 => (am_I a9 :: [])) ⟨_, rfl, rfl⟩ [] [] dX10_better_13 okX10_findJoins lk_RX10_210 (fun zA zH zE => txX10_findJoins l0 h2 zA zH zE) rfl (fun _ => rfl) (by decide) rfl (Nat.le_of_ble_eq_true rfl) (by decide) (by decide) (fun r3 h4 => ?_)
    refine am_if_ne (tgt := 22) dX10_better_16 (by decide) (fun c8 => ?_) (fun c8 => ?_)
    · refine am_iconst (v := (-1)) dX10_better_22 (by decide) ?_
      refine am_istore_n (LL := fun y9 => [some (am_R l0), some (am_I l1), some (am_I y9), none, none, none, none]) dX10_better_23 (by decide) (fun _ => rfl) (fun x5 => ?_)
      refine am_iconst (v := 0) dX10_better_24 (by decide) ?_
      refine am_istore_n (LL := fun y9 => [some (am_R l0), some (am_I l1), some (am_I x5), some (am_I y9), none, none, none]) dX10_better_25 (by decide) (fun _ => rfl) (fun x6 => ?_)
      refine am_iconst (v := 0) dX10_better_26 (by decide) ?_
      refine am_istore (LL := fun y9 => [some (am_R l0), some (am_I l1), some (am_I x5), some (am_I x6), some (am_I y9), none, none]) dX10_better_27 (by decide) (fun _ => rfl) (fun x7 => ?_)
      exact am_weak (sxX10_better_b29 am_F l0 l1 x5 x6 x7 h4) ⟨rfl, ⟨rfl, ⟨rfl, ⟨rfl, ⟨rfl, trivial⟩⟩⟩⟩⟩ (Nat.le_refl _) (Nat.le_refl _)
    refine am_ldc (v := (-1000000005)) dX10_better_19 wd1143 ?_
    exact am_iret dX10_better_21 rfl rfl
  refine am_ldc (v := (-1000000001)) dX10_better_9 wd1060 ?_
  exact am_iret dX10_better_11 rfl rfl
theorem txX10_better {xs : List Int32} (l0 : Option Nat) (l1 : Int32) (h : am_H) (a : Int32) (h2 : am_H) (e : fxX10_better l0 l1 h = some (a, h2)) : am_Ct xs mX10_better 3 0 0 [am_R l0, am_I l1] h (fun v h3 => v = am_ci a ∧ h3 = h2) := am_meth okX10_better (Nat.le_of_ble_eq_true rfl) rfl (sxX10_better l0 l1 h) e
theorem dX10_feed_0 : am_at cX10_feed 0 (.aload_n 0) 1 1 := by decide +kernel
theorem dX10_feed_1 : am_at cX10_feed 1 (.getfield 213) 3 4 := by decide +kernel
theorem dX10_feed_4 : am_at cX10_feed 4 (.bipush 12) 2 6 := by decide +kernel
theorem dX10_feed_6 : am_at cX10_feed 6 (.iadd) 1 7 := by decide +kernel
theorem dX10_feed_7 : am_at cX10_feed 7 (.bipush 96) 2 9 := by decide +kernel
theorem dX10_feed_9 : am_at cX10_feed 9 (.if_icmp .le 6) 3 12 := by decide +kernel
theorem dX10_feed_12 : am_at cX10_feed 12 (.ldc 94) 2 14 := by decide +kernel
theorem dX10_feed_14 : am_at cX10_feed 14 (.ireturn) 1 15 := by decide +kernel
theorem dX10_feed_15 : am_at cX10_feed 15 (.iconst 0) 1 16 := by decide +kernel
theorem dX10_feed_16 : am_at cX10_feed 16 (.istore 4) 2 18 := by decide +kernel
theorem dX10_feed_18 : am_at cX10_feed 18 (.iload 4) 2 20 := by decide +kernel
theorem dX10_feed_20 : am_at cX10_feed 20 (.bipush 12) 2 22 := by decide +kernel
theorem dX10_feed_22 : am_at cX10_feed 22 (.if_icmp .ge 62) 3 25 := by decide +kernel
theorem dX10_feed_25 : am_at cX10_feed 25 (.iload 4) 2 27 := by decide +kernel
theorem dX10_feed_27 : am_at cX10_feed 27 (.iconst 4) 1 28 := by decide +kernel
theorem dX10_feed_28 : am_at cX10_feed 28 (.if_icmp .ge 7) 3 31 := by decide +kernel
theorem dX10_feed_31 : am_at cX10_feed 31 (.iload_n 1) 1 32 := by decide +kernel
theorem dX10_feed_32 : am_at cX10_feed 32 (.goto 15) 3 35 := by decide +kernel
theorem dX10_feed_35 : am_at cX10_feed 35 (.iload 4) 2 37 := by decide +kernel
theorem dX10_feed_37 : am_at cX10_feed 37 (.bipush 8) 2 39 := by decide +kernel
theorem dX10_feed_39 : am_at cX10_feed 39 (.if_icmp .ge 7) 3 42 := by decide +kernel
theorem dX10_feed_42 : am_at cX10_feed 42 (.iload_n 2) 1 43 := by decide +kernel
theorem dX10_feed_43 : am_at cX10_feed 43 (.goto 4) 3 46 := by decide +kernel
theorem dX10_feed_46 : am_at cX10_feed 46 (.iload_n 3) 1 47 := by decide +kernel
theorem dX10_feed_47 : am_at cX10_feed 47 (.istore 5) 2 49 := by decide +kernel
theorem dX10_feed_49 : am_at cX10_feed 49 (.aload_n 0) 1 50 := by decide +kernel
theorem dX10_feed_50 : am_at cX10_feed 50 (.getfield 31) 3 53 := by decide +kernel
theorem dX10_feed_53 : am_at cX10_feed 53 (.aload_n 0) 1 54 := by decide +kernel
theorem dX10_feed_54 : am_at cX10_feed 54 (.getfield 213) 3 57 := by decide +kernel
theorem dX10_feed_57 : am_at cX10_feed 57 (.iload 4) 2 59 := by decide +kernel
theorem dX10_feed_59 : am_at cX10_feed 59 (.iadd) 1 60 := by decide +kernel
theorem dX10_feed_60 : am_at cX10_feed 60 (.iload 5) 2 62 := by decide +kernel
theorem dX10_feed_62 : am_at cX10_feed 62 (.bipush 24) 2 64 := by decide +kernel
theorem dX10_feed_64 : am_at cX10_feed 64 (.bipush 8) 2 66 := by decide +kernel
theorem dX10_feed_66 : am_at cX10_feed 66 (.iload 4) 2 68 := by decide +kernel
theorem dX10_feed_68 : am_at cX10_feed 68 (.iconst 4) 1 69 := by decide +kernel
theorem dX10_feed_69 : am_at cX10_feed 69 (.irem) 1 70 := by decide +kernel
theorem dX10_feed_70 : am_at cX10_feed 70 (.imul) 1 71 := by decide +kernel
theorem dX10_feed_71 : am_at cX10_feed 71 (.isub) 1 72 := by decide +kernel
theorem dX10_feed_72 : am_at cX10_feed 72 (.ishr) 1 73 := by decide +kernel
theorem dX10_feed_73 : am_at cX10_feed 73 (.sipush 255) 3 76 := by decide +kernel
theorem dX10_feed_76 : am_at cX10_feed 76 (.iand) 1 77 := by decide +kernel
theorem dX10_feed_77 : am_at cX10_feed 77 (.iastore) 1 78 := by decide +kernel
theorem dX10_feed_78 : am_at cX10_feed 78 (.iinc 4 1) 3 81 := by decide +kernel
theorem dX10_feed_81 : am_at cX10_feed 81 (.goto (-63)) 3 84 := by decide +kernel
theorem dX10_feed_84 : am_at cX10_feed 84 (.aload_n 0) 1 85 := by decide +kernel
theorem dX10_feed_85 : am_at cX10_feed 85 (.dup) 1 86 := by decide +kernel
theorem dX10_feed_86 : am_at cX10_feed 86 (.getfield 213) 3 89 := by decide +kernel
theorem dX10_feed_89 : am_at cX10_feed 89 (.bipush 12) 2 91 := by decide +kernel
theorem dX10_feed_91 : am_at cX10_feed 91 (.iadd) 1 92 := by decide +kernel
theorem dX10_feed_92 : am_at cX10_feed 92 (.putfield 213) 3 95 := by decide +kernel
theorem dX10_feed_95 : am_at cX10_feed 95 (.aload_n 0) 1 96 := by decide +kernel
theorem dX10_feed_96 : am_at cX10_feed 96 (.getfield 213) 3 99 := by decide +kernel
theorem dX10_feed_99 : am_at cX10_feed 99 (.ireturn) 1 100 := by decide +kernel
def fxX10_feed_b47 (k18 : Option Nat → Int32 → Int32 → Int32 → Int32 → am_H → Option (Int32 × am_H)) (l0 : Option Nat) (l1 : Int32) (l2 : Int32) (l3 : Int32) (l4 : Int32) (s0 : Int32) (h : am_H) : Option (Int32 × am_H) := am_lt s0 (fun x7 => am_gd (am_ob h l0 10) (am_gd (am_ob h l0 10) (am_gd (am_nz (4 : Int32)) (am_gd (am_ix h (am_gr h l0 8) 0 ((am_gi h l0 9) + l4)) (am_lt (am_si h (am_gr h l0 8) ((am_gi h l0 9) + l4).toNatClampNeg ((x7 >>> (((24 : Int32) - ((8 : Int32) * (am_rem l4 (4 : Int32)))) &&& 31)) &&& (255 : Int32))) (fun h8 => am_lt (l4 + 1) (fun x9 => k18 l0 l1 l2 l3 x9 h8)))))))
set_option maxRecDepth 100000 in
theorem sxX10_feed_b47 {xs : List Int32} (k18 : Option Nat → Int32 → Int32 → Int32 → Int32 → am_H → Option (Int32 × am_H)) (hk18 : ∀ (l0 : Option Nat) (l1 : Int32) (l2 : Int32) (l3 : Int32) (l4 : Int32) (h : am_H), am_Sm xs am_ci mX10_feed 0 0 0 18 [some (am_R l0), some (am_I l1), some (am_I l2), some (am_I l3), some (am_I l4), none] [] h (k18 l0 l1 l2 l3 l4 h)) (l0 : Option Nat) (l1 : Int32) (l2 : Int32) (l3 : Int32) (l4 : Int32) (s0 : Int32) (h : am_H) : am_Sm xs am_ci mX10_feed 0 0 0 47 [some (am_R l0), some (am_I l1), some (am_I l2), some (am_I l3), some (am_I l4), none] [am_I s0] h (fxX10_feed_b47 k18 l0 l1 l2 l3 l4 s0 h) := by
  unfold fxX10_feed_b47
  refine am_istore (LL := fun y9 => [some (am_R l0), some (am_I l1), some (am_I l2), some (am_I l3), some (am_I l4), some (am_I y9)]) dX10_feed_47 (by decide) (fun _ => rfl) (fun x7 => ?_)
  refine am_aload_n dX10_feed_49 rfl ?_
  refine am_getR dX10_feed_50 fk_RX10_31 rfl ?_
  refine am_aload_n dX10_feed_53 rfl ?_
  refine am_getI dX10_feed_54 fk_RX10_213 rfl ?_
  refine am_iload dX10_feed_57 rfl ?_
  refine am_iadd dX10_feed_59 ?_
  refine am_iload dX10_feed_60 rfl ?_
  refine am_bipush (v := 24) dX10_feed_62 (by decide) ?_
  refine am_bipush (v := 8) dX10_feed_64 (by decide) ?_
  refine am_iload dX10_feed_66 rfl ?_
  refine am_iconst (v := 4) dX10_feed_68 (by decide) ?_
  refine am_irem dX10_feed_69 ?_
  refine am_imul dX10_feed_70 ?_
  refine am_isub dX10_feed_71 ?_
  refine am_ishr dX10_feed_72 ?_
  refine am_sipush (v := 255) dX10_feed_73 (by decide) ?_
  refine am_iand dX10_feed_76 ?_
  refine am_iast dX10_feed_77 (fun h8 => ?_)
  refine am_iinc (v := 1) (LL := fun y9 => [some (am_R l0), some (am_I l1), some (am_I l2), some (am_I l3), some (am_I y9), some (am_I x7)]) dX10_feed_78 (by decide) rfl (by decide) (fun _ => rfl) (fun x9 => ?_)
  refine am_goto (tgt := 18) dX10_feed_81 (by decide) ?_
  exact am_weak (hk18 l0 l1 l2 l3 x9 h8) ⟨rfl, ⟨rfl, ⟨rfl, ⟨rfl, ⟨rfl, trivial⟩⟩⟩⟩⟩ (Nat.le_refl _) (Nat.le_refl _)
def fxX10_feed_b18 : Nat → Option Nat → Int32 → Int32 → Int32 → Int32 → am_H → Option (Int32 × am_H)
  | 0, _, _, _, _, _, _ => none
  | n + 1, l0, l1, l2, l3, l4, h => if (12 : Int32) ≤ l4 then (am_gd (am_ob h l0 10) (am_gd (am_ob h l0 10) (am_lt (am_si h l0 9 ((am_gi h l0 9) + (12 : Int32))) (fun h3 => am_gd (am_ob h3 l0 10) (some ((am_gi h3 l0 9), h3)))))) else (if (4 : Int32) ≤ l4 then (if (8 : Int32) ≤ l4 then (fxX10_feed_b47 (fxX10_feed_b18 n) l0 l1 l2 l3 l4 l3 h) else (fxX10_feed_b47 (fxX10_feed_b18 n) l0 l1 l2 l3 l4 l2 h)) else (fxX10_feed_b47 (fxX10_feed_b18 n) l0 l1 l2 l3 l4 l1 h))
set_option maxRecDepth 100000 in
theorem sxX10_feed_b18 {xs : List Int32} : ∀ (n : Nat) (l0 : Option Nat) (l1 : Int32) (l2 : Int32) (l3 : Int32) (l4 : Int32) (h : am_H), am_Sm xs am_ci mX10_feed 0 0 0 18 [some (am_R l0), some (am_I l1), some (am_I l2), some (am_I l3), some (am_I l4), none] [] h (fxX10_feed_b18 n l0 l1 l2 l3 l4 h) := by
  intro n
  induction n with
  | zero => intros; exact am_none
  | succ n ih =>
    intro l0 l1 l2 l3 l4 h
    rw [fxX10_feed_b18]
    refine am_iload dX10_feed_18 rfl ?_
    refine am_bipush (v := 12) dX10_feed_20 (by decide) ?_
    refine am_icmp_ge (tgt := 84) dX10_feed_22 (by decide) (fun c6 => ?_) (fun c6 => ?_)
    · refine am_aload_n dX10_feed_84 rfl ?_
      refine am_dup dX10_feed_85 ?_
      refine am_getI dX10_feed_86 fk_RX10_213 rfl ?_
      refine am_bipush (v := 12) dX10_feed_89 (by decide) ?_
      refine am_iadd dX10_feed_91 ?_
      refine am_putI dX10_feed_92 fk_RX10_213 ⟨_, rfl, Or.inl rfl⟩ rfl (fun h3 => ?_)
      refine am_aload_n dX10_feed_95 rfl ?_
      refine am_getI dX10_feed_96 fk_RX10_213 rfl ?_
      exact am_iret dX10_feed_99 rfl rfl
    refine am_iload dX10_feed_25 rfl ?_
    refine am_iconst (v := 4) dX10_feed_27 (by decide) ?_
    refine am_icmp_ge (tgt := 35) dX10_feed_28 (by decide) (fun c5 => ?_) (fun c5 => ?_)
    · refine am_iload dX10_feed_35 rfl ?_
      refine am_bipush (v := 8) dX10_feed_37 (by decide) ?_
      refine am_icmp_ge (tgt := 46) dX10_feed_39 (by decide) (fun c4 => ?_) (fun c4 => ?_)
      · refine am_iload_n dX10_feed_46 rfl ?_
        exact am_weak (sxX10_feed_b47 (fxX10_feed_b18 n) ih l0 l1 l2 l3 l4 l3 h) ⟨rfl, ⟨rfl, ⟨rfl, ⟨rfl, ⟨rfl, trivial⟩⟩⟩⟩⟩ (Nat.le_refl _) (Nat.le_refl _)
      refine am_iload_n dX10_feed_42 rfl ?_
      refine am_goto (tgt := 47) dX10_feed_43 (by decide) ?_
      exact am_weak (sxX10_feed_b47 (fxX10_feed_b18 n) ih l0 l1 l2 l3 l4 l2 h) ⟨rfl, ⟨rfl, ⟨rfl, ⟨rfl, ⟨rfl, trivial⟩⟩⟩⟩⟩ (Nat.le_refl _) (Nat.le_refl _)
    refine am_iload_n dX10_feed_31 rfl ?_
    refine am_goto (tgt := 47) dX10_feed_32 (by decide) ?_
    exact am_weak (sxX10_feed_b47 (fxX10_feed_b18 n) ih l0 l1 l2 l3 l4 l1 h) ⟨rfl, ⟨rfl, ⟨rfl, ⟨rfl, ⟨rfl, trivial⟩⟩⟩⟩⟩ (Nat.le_refl _) (Nat.le_refl _)
def fxX10_feed (l0 : Option Nat) (l1 : Int32) (l2 : Int32) (l3 : Int32) (h : am_H) : Option (Int32 × am_H) := am_gd (am_ob h l0 10) (if ((am_gi h l0 9) + (12 : Int32)) ≤ (96 : Int32) then (am_lt (0 : Int32) (fun x1 => fxX10_feed_b18 am_F l0 l1 l2 l3 x1 h)) else (some ((-1000000003 : Int32), h)))
set_option maxRecDepth 100000 in
theorem sxX10_feed {xs : List Int32} (l0 : Option Nat) (l1 : Int32) (l2 : Int32) (l3 : Int32) (h : am_H) : am_Sm xs am_ci mX10_feed 0 0 0 0 [some (am_R l0), some (am_I l1), some (am_I l2), some (am_I l3), none, none] [] h (fxX10_feed l0 l1 l2 l3 h) := by
  unfold fxX10_feed
  refine am_aload_n dX10_feed_0 rfl ?_
  refine am_getI dX10_feed_1 fk_RX10_213 rfl ?_
  refine am_bipush (v := 12) dX10_feed_4 (by decide) ?_
  refine am_iadd dX10_feed_6 ?_
  refine am_bipush (v := 96) dX10_feed_7 (by decide) ?_
  refine am_icmp_le (tgt := 15) dX10_feed_9 (by decide) (fun c2 => ?_) (fun c2 => ?_)
  · refine am_iconst (v := 0) dX10_feed_15 (by decide) ?_
    refine am_istore (LL := fun y9 => [some (am_R l0), some (am_I l1), some (am_I l2), some (am_I l3), some (am_I y9), none]) dX10_feed_16 (by decide) (fun _ => rfl) (fun x1 => ?_)
    exact am_weak (sxX10_feed_b18 am_F l0 l1 l2 l3 x1 h) ⟨rfl, ⟨rfl, ⟨rfl, ⟨rfl, ⟨rfl, trivial⟩⟩⟩⟩⟩ (Nat.le_refl _) (Nat.le_refl _)
  refine am_ldc (v := (-1000000003)) dX10_feed_12 wd1061 ?_
  exact am_iret dX10_feed_14 rfl rfl
theorem txX10_feed {xs : List Int32} (l0 : Option Nat) (l1 : Int32) (l2 : Int32) (l3 : Int32) (h : am_H) (a : Int32) (h2 : am_H) (e : fxX10_feed l0 l1 l2 l3 h = some (a, h2)) : am_Ct xs mX10_feed 0 0 0 [am_R l0, am_I l1, am_I l2, am_I l3] h (fun v h3 => v = am_ci a ∧ h3 = h2) := am_meth okX10_feed (Nat.le_of_ble_eq_true rfl) rfl (sxX10_feed l0 l1 l2 l3 h) e
theorem dX10_trim_0 : am_at cX10_trim 0 (.iload_n 1) 1 1 := by decide +kernel
theorem dX10_trim_1 : am_at cX10_trim 1 (.iconst 0) 1 2 := by decide +kernel
theorem dX10_trim_2 : am_at cX10_trim 2 (.aload_n 0) 1 3 := by decide +kernel
theorem dX10_trim_3 : am_at cX10_trim 3 (.getfield 213) 3 6 := by decide +kernel
theorem dX10_trim_6 : am_at cX10_trim 6 (.invokestatic 85) 3 9 := by decide +kernel
theorem dX10_trim_9 : am_at cX10_trim 9 (.ifCond .ne 6) 3 12 := by decide +kernel
theorem dX10_trim_12 : am_at cX10_trim 12 (.ldc 93) 2 14 := by decide +kernel
theorem dX10_trim_14 : am_at cX10_trim 14 (.ireturn) 1 15 := by decide +kernel
theorem dX10_trim_15 : am_at cX10_trim 15 (.aload_n 0) 1 16 := by decide +kernel
theorem dX10_trim_16 : am_at cX10_trim 16 (.iload_n 1) 1 17 := by decide +kernel
theorem dX10_trim_17 : am_at cX10_trim 17 (.putfield 213) 3 20 := by decide +kernel
theorem dX10_trim_20 : am_at cX10_trim 20 (.iload_n 1) 1 21 := by decide +kernel
theorem dX10_trim_21 : am_at cX10_trim 21 (.ireturn) 1 22 := by decide +kernel
def fxX10_trim (l0 : Option Nat) (l1 : Int32) (h : am_H) : Option (Int32 × am_H) := am_gd (am_ob h l0 10) (am_bd (fxX10_in l1 (0 : Int32) (am_gi h l0 9) h) (fun r1 h2 => if r1 = 0 then (some ((-1000000001 : Int32), h2)) else (am_gd (am_ob h2 l0 10) (am_lt (am_si h2 l0 9 l1) (fun h3 => some (l1, h3))))))
set_option maxRecDepth 100000 in
theorem sxX10_trim {xs : List Int32} (l0 : Option Nat) (l1 : Int32) (h : am_H) : am_Sm xs am_ci mX10_trim 1 0 0 0 [some (am_R l0), some (am_I l1)] [] h (fxX10_trim l0 l1 h) := by
  unfold fxX10_trim
  refine am_iload_n dX10_trim_0 rfl ?_
  refine am_iconst (v := 0) dX10_trim_1 (by decide) ?_
  refine am_aload_n dX10_trim_2 rfl ?_
  refine am_getI dX10_trim_3 fk_RX10_213 rfl ?_
  refine am_callS (cvj := am_ci) (mtj := mX10_in) (dj := 0) (nj := 3) (rcj := 0) (rsj := 0) (rc' := 0) (rs' := 0) (st' := fun a9 => (am_I a9 :: [])) [am_I l1, am_I (0 : Int32), am_I (am_gi h l0 9)] [] dX10_trim_6 okX10_in lk_RX10_85 (fun zA zH zE => txX10_in l1 (0 : Int32) (am_gi h l0 9) h zA zH zE) rfl (fun _ => rfl) (by decide) rfl (Nat.le_of_ble_eq_true rfl) (by decide) (by decide) (fun r1 h2 => ?_)
  refine am_if_ne (tgt := 15) dX10_trim_9 (by decide) (fun c4 => ?_) (fun c4 => ?_)
  · refine am_aload_n dX10_trim_15 rfl ?_
    refine am_iload_n dX10_trim_16 rfl ?_
    refine am_putI dX10_trim_17 fk_RX10_213 ⟨_, rfl, Or.inl rfl⟩ rfl (fun h3 => ?_)
    refine am_iload_n dX10_trim_20 rfl ?_
    exact am_iret dX10_trim_21 rfl rfl
  refine am_ldc (v := (-1000000001)) dX10_trim_12 wd1060 ?_
  exact am_iret dX10_trim_14 rfl rfl
theorem txX10_trim {xs : List Int32} (l0 : Option Nat) (l1 : Int32) (h : am_H) (a : Int32) (h2 : am_H) (e : fxX10_trim l0 l1 h = some (a, h2)) : am_Ct xs mX10_trim 1 0 0 [am_R l0, am_I l1] h (fun v h3 => v = am_ci a ∧ h3 = h2) := am_meth okX10_trim (Nat.le_of_ble_eq_true rfl) rfl (sxX10_trim l0 l1 h) e
theorem dX10_isLetter_0 : am_at cX10_isLetter 0 (.iload_n 1) 1 1 := by decide +kernel
theorem dX10_isLetter_1 : am_at cX10_isLetter 1 (.aload_n 0) 1 2 := by decide +kernel
theorem dX10_isLetter_2 : am_at cX10_isLetter 2 (.getfield 213) 3 5 := by decide +kernel
theorem dX10_isLetter_5 : am_at cX10_isLetter 5 (.if_icmp .ge 29) 3 8 := by decide +kernel
theorem dX10_isLetter_8 : am_at cX10_isLetter 8 (.aload_n 0) 1 9 := by decide +kernel
theorem dX10_isLetter_9 : am_at cX10_isLetter 9 (.getfield 31) 3 12 := by decide +kernel
theorem dX10_isLetter_12 : am_at cX10_isLetter 12 (.iload_n 1) 1 13 := by decide +kernel
theorem dX10_isLetter_13 : am_at cX10_isLetter 13 (.iaload) 1 14 := by decide +kernel
theorem dX10_isLetter_14 : am_at cX10_isLetter 14 (.bipush 97) 2 16 := by decide +kernel
theorem dX10_isLetter_16 : am_at cX10_isLetter 16 (.if_icmp .lt 18) 3 19 := by decide +kernel
theorem dX10_isLetter_19 : am_at cX10_isLetter 19 (.aload_n 0) 1 20 := by decide +kernel
theorem dX10_isLetter_20 : am_at cX10_isLetter 20 (.getfield 31) 3 23 := by decide +kernel
theorem dX10_isLetter_23 : am_at cX10_isLetter 23 (.iload_n 1) 1 24 := by decide +kernel
theorem dX10_isLetter_24 : am_at cX10_isLetter 24 (.iaload) 1 25 := by decide +kernel
theorem dX10_isLetter_25 : am_at cX10_isLetter 25 (.bipush 122) 2 27 := by decide +kernel
theorem dX10_isLetter_27 : am_at cX10_isLetter 27 (.if_icmp .gt 7) 3 30 := by decide +kernel
theorem dX10_isLetter_30 : am_at cX10_isLetter 30 (.iconst 1) 1 31 := by decide +kernel
theorem dX10_isLetter_31 : am_at cX10_isLetter 31 (.goto 4) 3 34 := by decide +kernel
theorem dX10_isLetter_34 : am_at cX10_isLetter 34 (.iconst 0) 1 35 := by decide +kernel
theorem dX10_isLetter_35 : am_at cX10_isLetter 35 (.ireturn) 1 36 := by decide +kernel
def fxX10_isLetter (l0 : Option Nat) (l1 : Int32) (h : am_H) : Option (Int32 × am_H) := am_gd (am_ob h l0 10) (if (am_gi h l0 9) ≤ l1 then (am_gd (am_bz (0 : Int32)) (some ((0 : Int32), h))) else (am_gd (am_ob h l0 10) (am_gd (am_ix h (am_gr h l0 8) 0 l1) (if (am_gi h (am_gr h l0 8) l1.toNatClampNeg) < (97 : Int32) then (am_gd (am_bz (0 : Int32)) (some ((0 : Int32), h))) else (am_gd (am_ob h l0 10) (am_gd (am_ix h (am_gr h l0 8) 0 l1) (if (122 : Int32) < (am_gi h (am_gr h l0 8) l1.toNatClampNeg) then (am_gd (am_bz (0 : Int32)) (some ((0 : Int32), h))) else (am_gd (am_bz (1 : Int32)) (some ((1 : Int32), h))))))))))
set_option maxRecDepth 100000 in
theorem sxX10_isLetter {xs : List Int32} (l0 : Option Nat) (l1 : Int32) (h : am_H) : am_Sm xs am_ci mX10_isLetter 0 0 0 0 [some (am_R l0), some (am_I l1)] [] h (fxX10_isLetter l0 l1 h) := by
  unfold fxX10_isLetter
  refine am_iload_n dX10_isLetter_0 rfl ?_
  refine am_aload_n dX10_isLetter_1 rfl ?_
  refine am_getI dX10_isLetter_2 fk_RX10_213 rfl ?_
  refine am_icmp_ge (tgt := 34) dX10_isLetter_5 (by decide) (fun c3 => ?_) (fun c3 => ?_)
  · refine am_iconst (v := 0) dX10_isLetter_34 (by decide) ?_
    exact am_zret dX10_isLetter_35 rfl rfl
  refine am_aload_n dX10_isLetter_8 rfl ?_
  refine am_getR dX10_isLetter_9 fk_RX10_31 rfl ?_
  refine am_iload_n dX10_isLetter_12 rfl ?_
  refine am_iald dX10_isLetter_13 ?_
  refine am_bipush (v := 97) dX10_isLetter_14 (by decide) ?_
  refine am_icmp_lt (tgt := 34) dX10_isLetter_16 (by decide) (fun c2 => ?_) (fun c2 => ?_)
  · refine am_iconst (v := 0) dX10_isLetter_34 (by decide) ?_
    exact am_zret dX10_isLetter_35 rfl rfl
  refine am_aload_n dX10_isLetter_19 rfl ?_
  refine am_getR dX10_isLetter_20 fk_RX10_31 rfl ?_
  refine am_iload_n dX10_isLetter_23 rfl ?_
  refine am_iald dX10_isLetter_24 ?_
  refine am_bipush (v := 122) dX10_isLetter_25 (by decide) ?_
  refine am_icmp_gt (tgt := 34) dX10_isLetter_27 (by decide) (fun c1 => ?_) (fun c1 => ?_)
  · refine am_iconst (v := 0) dX10_isLetter_34 (by decide) ?_
    exact am_zret dX10_isLetter_35 rfl rfl
  refine am_iconst (v := 1) dX10_isLetter_30 (by decide) ?_
  refine am_goto (tgt := 35) dX10_isLetter_31 (by decide) ?_
  exact am_zret dX10_isLetter_35 rfl rfl
theorem txX10_isLetter {xs : List Int32} (l0 : Option Nat) (l1 : Int32) (h : am_H) (a : Int32) (h2 : am_H) (e : fxX10_isLetter l0 l1 h = some (a, h2)) : am_Ct xs mX10_isLetter 0 0 0 [am_R l0, am_I l1] h (fun v h3 => v = am_ci a ∧ h3 = h2) := am_meth okX10_isLetter (Nat.le_of_ble_eq_true rfl) rfl (sxX10_isLetter l0 l1 h) e
theorem dX10_isFigure_0 : am_at cX10_isFigure 0 (.iload_n 1) 1 1 := by decide +kernel
theorem dX10_isFigure_1 : am_at cX10_isFigure 1 (.aload_n 0) 1 2 := by decide +kernel
theorem dX10_isFigure_2 : am_at cX10_isFigure 2 (.getfield 213) 3 5 := by decide +kernel
theorem dX10_isFigure_5 : am_at cX10_isFigure 5 (.if_icmp .ge 29) 3 8 := by decide +kernel
theorem dX10_isFigure_8 : am_at cX10_isFigure 8 (.aload_n 0) 1 9 := by decide +kernel
theorem dX10_isFigure_9 : am_at cX10_isFigure 9 (.getfield 31) 3 12 := by decide +kernel
theorem dX10_isFigure_12 : am_at cX10_isFigure 12 (.iload_n 1) 1 13 := by decide +kernel
theorem dX10_isFigure_13 : am_at cX10_isFigure 13 (.iaload) 1 14 := by decide +kernel
theorem dX10_isFigure_14 : am_at cX10_isFigure 14 (.bipush 48) 2 16 := by decide +kernel
theorem dX10_isFigure_16 : am_at cX10_isFigure 16 (.if_icmp .lt 18) 3 19 := by decide +kernel
theorem dX10_isFigure_19 : am_at cX10_isFigure 19 (.aload_n 0) 1 20 := by decide +kernel
theorem dX10_isFigure_20 : am_at cX10_isFigure 20 (.getfield 31) 3 23 := by decide +kernel
theorem dX10_isFigure_23 : am_at cX10_isFigure 23 (.iload_n 1) 1 24 := by decide +kernel
theorem dX10_isFigure_24 : am_at cX10_isFigure 24 (.iaload) 1 25 := by decide +kernel
theorem dX10_isFigure_25 : am_at cX10_isFigure 25 (.bipush 57) 2 27 := by decide +kernel
theorem dX10_isFigure_27 : am_at cX10_isFigure 27 (.if_icmp .gt 7) 3 30 := by decide +kernel
theorem dX10_isFigure_30 : am_at cX10_isFigure 30 (.iconst 1) 1 31 := by decide +kernel
theorem dX10_isFigure_31 : am_at cX10_isFigure 31 (.goto 4) 3 34 := by decide +kernel
theorem dX10_isFigure_34 : am_at cX10_isFigure 34 (.iconst 0) 1 35 := by decide +kernel
theorem dX10_isFigure_35 : am_at cX10_isFigure 35 (.ireturn) 1 36 := by decide +kernel
def fxX10_isFigure (l0 : Option Nat) (l1 : Int32) (h : am_H) : Option (Int32 × am_H) := am_gd (am_ob h l0 10) (if (am_gi h l0 9) ≤ l1 then (am_gd (am_bz (0 : Int32)) (some ((0 : Int32), h))) else (am_gd (am_ob h l0 10) (am_gd (am_ix h (am_gr h l0 8) 0 l1) (if (am_gi h (am_gr h l0 8) l1.toNatClampNeg) < (48 : Int32) then (am_gd (am_bz (0 : Int32)) (some ((0 : Int32), h))) else (am_gd (am_ob h l0 10) (am_gd (am_ix h (am_gr h l0 8) 0 l1) (if (57 : Int32) < (am_gi h (am_gr h l0 8) l1.toNatClampNeg) then (am_gd (am_bz (0 : Int32)) (some ((0 : Int32), h))) else (am_gd (am_bz (1 : Int32)) (some ((1 : Int32), h))))))))))
set_option maxRecDepth 100000 in
theorem sxX10_isFigure {xs : List Int32} (l0 : Option Nat) (l1 : Int32) (h : am_H) : am_Sm xs am_ci mX10_isFigure 0 0 0 0 [some (am_R l0), some (am_I l1)] [] h (fxX10_isFigure l0 l1 h) := by
  unfold fxX10_isFigure
  refine am_iload_n dX10_isFigure_0 rfl ?_
  refine am_aload_n dX10_isFigure_1 rfl ?_
  refine am_getI dX10_isFigure_2 fk_RX10_213 rfl ?_
  refine am_icmp_ge (tgt := 34) dX10_isFigure_5 (by decide) (fun c3 => ?_) (fun c3 => ?_)
  · refine am_iconst (v := 0) dX10_isFigure_34 (by decide) ?_
    exact am_zret dX10_isFigure_35 rfl rfl
  refine am_aload_n dX10_isFigure_8 rfl ?_
  refine am_getR dX10_isFigure_9 fk_RX10_31 rfl ?_
  refine am_iload_n dX10_isFigure_12 rfl ?_
  refine am_iald dX10_isFigure_13 ?_
  refine am_bipush (v := 48) dX10_isFigure_14 (by decide) ?_
  refine am_icmp_lt (tgt := 34) dX10_isFigure_16 (by decide) (fun c2 => ?_) (fun c2 => ?_)
  · refine am_iconst (v := 0) dX10_isFigure_34 (by decide) ?_
    exact am_zret dX10_isFigure_35 rfl rfl
  refine am_aload_n dX10_isFigure_19 rfl ?_
  refine am_getR dX10_isFigure_20 fk_RX10_31 rfl ?_
  refine am_iload_n dX10_isFigure_23 rfl ?_
  refine am_iald dX10_isFigure_24 ?_
  refine am_bipush (v := 57) dX10_isFigure_25 (by decide) ?_
  refine am_icmp_gt (tgt := 34) dX10_isFigure_27 (by decide) (fun c1 => ?_) (fun c1 => ?_)
  · refine am_iconst (v := 0) dX10_isFigure_34 (by decide) ?_
    exact am_zret dX10_isFigure_35 rfl rfl
  refine am_iconst (v := 1) dX10_isFigure_30 (by decide) ?_
  refine am_goto (tgt := 35) dX10_isFigure_31 (by decide) ?_
  exact am_zret dX10_isFigure_35 rfl rfl
theorem txX10_isFigure {xs : List Int32} (l0 : Option Nat) (l1 : Int32) (h : am_H) (a : Int32) (h2 : am_H) (e : fxX10_isFigure l0 l1 h = some (a, h2)) : am_Ct xs mX10_isFigure 0 0 0 [am_R l0, am_I l1] h (fun v h3 => v = am_ci a ∧ h3 = h2) := am_meth okX10_isFigure (Nat.le_of_ble_eq_true rfl) rfl (sxX10_isFigure l0 l1 h) e
theorem dX10_go_0 : am_at cX10_go 0 (.aload_n 0) 1 1 := by decide +kernel
theorem dX10_go_1 : am_at cX10_go 1 (.getfield 217) 3 4 := by decide +kernel
theorem dX10_go_4 : am_at cX10_go 4 (.aload_n 0) 1 5 := by decide +kernel
theorem dX10_go_5 : am_at cX10_go 5 (.getfield 213) 3 8 := by decide +kernel
theorem dX10_go_8 : am_at cX10_go 8 (.if_icmp .ge 30) 3 11 := by decide +kernel
theorem dX10_go_11 : am_at cX10_go 11 (.aload_n 0) 1 12 := by decide +kernel
theorem dX10_go_12 : am_at cX10_go 12 (.getfield 31) 3 15 := by decide +kernel
theorem dX10_go_15 : am_at cX10_go 15 (.aload_n 0) 1 16 := by decide +kernel
theorem dX10_go_16 : am_at cX10_go 16 (.getfield 217) 3 19 := by decide +kernel
theorem dX10_go_19 : am_at cX10_go 19 (.iaload) 1 20 := by decide +kernel
theorem dX10_go_20 : am_at cX10_go 20 (.bipush 32) 2 22 := by decide +kernel
theorem dX10_go_22 : am_at cX10_go 22 (.if_icmp .ne 16) 3 25 := by decide +kernel
theorem dX10_go_25 : am_at cX10_go 25 (.aload_n 0) 1 26 := by decide +kernel
theorem dX10_go_26 : am_at cX10_go 26 (.dup) 1 27 := by decide +kernel
theorem dX10_go_27 : am_at cX10_go 27 (.getfield 217) 3 30 := by decide +kernel
theorem dX10_go_30 : am_at cX10_go 30 (.iconst 1) 1 31 := by decide +kernel
theorem dX10_go_31 : am_at cX10_go 31 (.iadd) 1 32 := by decide +kernel
theorem dX10_go_32 : am_at cX10_go 32 (.putfield 217) 3 35 := by decide +kernel
theorem dX10_go_35 : am_at cX10_go 35 (.goto (-35)) 3 38 := by decide +kernel
theorem dX10_go_38 : am_at cX10_go 38 (.aload_n 0) 1 39 := by decide +kernel
theorem dX10_go_39 : am_at cX10_go 39 (.aload_n 0) 1 40 := by decide +kernel
theorem dX10_go_40 : am_at cX10_go 40 (.getfield 217) 3 43 := by decide +kernel
theorem dX10_go_43 : am_at cX10_go 43 (.putfield 220) 3 46 := by decide +kernel
theorem dX10_go_46 : am_at cX10_go 46 (.aload_n 0) 1 47 := by decide +kernel
theorem dX10_go_47 : am_at cX10_go 47 (.getfield 220) 3 50 := by decide +kernel
theorem dX10_go_50 : am_at cX10_go 50 (.aload_n 0) 1 51 := by decide +kernel
theorem dX10_go_51 : am_at cX10_go 51 (.getfield 223) 3 54 := by decide +kernel
theorem dX10_go_54 : am_at cX10_go 54 (.if_icmp .ne 7) 3 57 := by decide +kernel
theorem dX10_go_57 : am_at cX10_go 57 (.iconst 1) 1 58 := by decide +kernel
theorem dX10_go_58 : am_at cX10_go 58 (.goto 4) 3 61 := by decide +kernel
theorem dX10_go_61 : am_at cX10_go 61 (.iconst 0) 1 62 := by decide +kernel
theorem dX10_go_62 : am_at cX10_go 62 (.istore_n 1) 1 63 := by decide +kernel
theorem dX10_go_63 : am_at cX10_go 63 (.aload_n 0) 1 64 := by decide +kernel
theorem dX10_go_64 : am_at cX10_go 64 (.getfield 220) 3 67 := by decide +kernel
theorem dX10_go_67 : am_at cX10_go 67 (.aload_n 0) 1 68 := by decide +kernel
theorem dX10_go_68 : am_at cX10_go 68 (.getfield 213) 3 71 := by decide +kernel
theorem dX10_go_71 : am_at cX10_go 71 (.if_icmp .ne 11) 3 74 := by decide +kernel
theorem dX10_go_74 : am_at cX10_go 74 (.aload_n 0) 1 75 := by decide +kernel
theorem dX10_go_75 : am_at cX10_go 75 (.iconst 0) 1 76 := by decide +kernel
theorem dX10_go_76 : am_at cX10_go 76 (.putfield 226) 3 79 := by decide +kernel
theorem dX10_go_79 : am_at cX10_go 79 (.goto 224) 3 82 := by decide +kernel
theorem dX10_go_82 : am_at cX10_go 82 (.aload_n 0) 1 83 := by decide +kernel
theorem dX10_go_83 : am_at cX10_go 83 (.aload_n 0) 1 84 := by decide +kernel
theorem dX10_go_84 : am_at cX10_go 84 (.getfield 220) 3 87 := by decide +kernel
theorem dX10_go_87 : am_at cX10_go 87 (.invokevirtual 229) 3 90 := by decide +kernel
theorem dX10_go_90 : am_at cX10_go 90 (.ifCond .eq 64) 3 93 := by decide +kernel
theorem dX10_go_93 : am_at cX10_go 93 (.aload_n 0) 1 94 := by decide +kernel
theorem dX10_go_94 : am_at cX10_go 94 (.aload_n 0) 1 95 := by decide +kernel
theorem dX10_go_95 : am_at cX10_go 95 (.getfield 217) 3 98 := by decide +kernel
theorem dX10_go_98 : am_at cX10_go 98 (.invokevirtual 229) 3 101 := by decide +kernel
theorem dX10_go_101 : am_at cX10_go 101 (.ifCond .eq 16) 3 104 := by decide +kernel
theorem dX10_go_104 : am_at cX10_go 104 (.aload_n 0) 1 105 := by decide +kernel
theorem dX10_go_105 : am_at cX10_go 105 (.dup) 1 106 := by decide +kernel
theorem dX10_go_106 : am_at cX10_go 106 (.getfield 217) 3 109 := by decide +kernel
theorem dX10_go_109 : am_at cX10_go 109 (.iconst 1) 1 110 := by decide +kernel
theorem dX10_go_110 : am_at cX10_go 110 (.iadd) 1 111 := by decide +kernel
theorem dX10_go_111 : am_at cX10_go 111 (.putfield 217) 3 114 := by decide +kernel
theorem dX10_go_114 : am_at cX10_go 114 (.goto (-21)) 3 117 := by decide +kernel
theorem dX10_go_117 : am_at cX10_go 117 (.aload_n 0) 1 118 := by decide +kernel
theorem dX10_go_118 : am_at cX10_go 118 (.iload_n 1) 1 119 := by decide +kernel
theorem dX10_go_119 : am_at cX10_go 119 (.ifCond .eq 7) 3 122 := by decide +kernel
theorem dX10_go_122 : am_at cX10_go 122 (.iconst 4) 1 123 := by decide +kernel
theorem dX10_go_123 : am_at cX10_go 123 (.goto 4) 3 126 := by decide +kernel
theorem dX10_go_126 : am_at cX10_go 126 (.iconst 1) 1 127 := by decide +kernel
theorem dX10_go_127 : am_at cX10_go 127 (.putfield 226) 3 130 := by decide +kernel
theorem dX10_go_130 : am_at cX10_go 130 (.aload_n 0) 1 131 := by decide +kernel
theorem dX10_go_131 : am_at cX10_go 131 (.aload_n 0) 1 132 := by decide +kernel
theorem dX10_go_132 : am_at cX10_go 132 (.getfield 31) 3 135 := by decide +kernel
theorem dX10_go_135 : am_at cX10_go 135 (.aload_n 0) 1 136 := by decide +kernel
theorem dX10_go_136 : am_at cX10_go 136 (.getfield 220) 3 139 := by decide +kernel
theorem dX10_go_139 : am_at cX10_go 139 (.iaload) 1 140 := by decide +kernel
theorem dX10_go_140 : am_at cX10_go 140 (.putfield 232) 3 143 := by decide +kernel
theorem dX10_go_143 : am_at cX10_go 143 (.aload_n 0) 1 144 := by decide +kernel
theorem dX10_go_144 : am_at cX10_go 144 (.aload_n 0) 1 145 := by decide +kernel
theorem dX10_go_145 : am_at cX10_go 145 (.getfield 217) 3 148 := by decide +kernel
theorem dX10_go_148 : am_at cX10_go 148 (.putfield 223) 3 151 := by decide +kernel
theorem dX10_go_151 : am_at cX10_go 151 (.goto 152) 3 154 := by decide +kernel
theorem dX10_go_154 : am_at cX10_go 154 (.aload_n 0) 1 155 := by decide +kernel
theorem dX10_go_155 : am_at cX10_go 155 (.aload_n 0) 1 156 := by decide +kernel
theorem dX10_go_156 : am_at cX10_go 156 (.getfield 220) 3 159 := by decide +kernel
theorem dX10_go_159 : am_at cX10_go 159 (.invokevirtual 235) 3 162 := by decide +kernel
theorem dX10_go_162 : am_at cX10_go 162 (.ifCond .eq 113) 3 165 := by decide +kernel
theorem dX10_go_165 : am_at cX10_go 165 (.aload_n 0) 1 166 := by decide +kernel
theorem dX10_go_166 : am_at cX10_go 166 (.iconst 0) 1 167 := by decide +kernel
theorem dX10_go_167 : am_at cX10_go 167 (.putfield 232) 3 170 := by decide +kernel
theorem dX10_go_170 : am_at cX10_go 170 (.aload_n 0) 1 171 := by decide +kernel
theorem dX10_go_171 : am_at cX10_go 171 (.aload_n 0) 1 172 := by decide +kernel
theorem dX10_go_172 : am_at cX10_go 172 (.getfield 217) 3 175 := by decide +kernel
theorem dX10_go_175 : am_at cX10_go 175 (.invokevirtual 235) 3 178 := by decide +kernel
theorem dX10_go_178 : am_at cX10_go 178 (.ifCond .eq 60) 3 181 := by decide +kernel
theorem dX10_go_181 : am_at cX10_go 181 (.aload_n 0) 1 182 := by decide +kernel
theorem dX10_go_182 : am_at cX10_go 182 (.aload_n 0) 1 183 := by decide +kernel
theorem dX10_go_183 : am_at cX10_go 183 (.getfield 217) 3 186 := by decide +kernel
theorem dX10_go_186 : am_at cX10_go 186 (.aload_n 0) 1 187 := by decide +kernel
theorem dX10_go_187 : am_at cX10_go 187 (.getfield 220) 3 190 := by decide +kernel
theorem dX10_go_190 : am_at cX10_go 190 (.isub) 1 191 := by decide +kernel
theorem dX10_go_191 : am_at cX10_go 191 (.iconst 4) 1 192 := by decide +kernel
theorem dX10_go_192 : am_at cX10_go 192 (.if_icmp .ge 26) 3 195 := by decide +kernel
theorem dX10_go_195 : am_at cX10_go 195 (.bipush 10) 2 197 := by decide +kernel
theorem dX10_go_197 : am_at cX10_go 197 (.aload_n 0) 1 198 := by decide +kernel
theorem dX10_go_198 : am_at cX10_go 198 (.getfield 232) 3 201 := by decide +kernel
theorem dX10_go_201 : am_at cX10_go 201 (.imul) 1 202 := by decide +kernel
theorem dX10_go_202 : am_at cX10_go 202 (.aload_n 0) 1 203 := by decide +kernel
theorem dX10_go_203 : am_at cX10_go 203 (.getfield 31) 3 206 := by decide +kernel
theorem dX10_go_206 : am_at cX10_go 206 (.aload_n 0) 1 207 := by decide +kernel
theorem dX10_go_207 : am_at cX10_go 207 (.getfield 217) 3 210 := by decide +kernel
theorem dX10_go_210 : am_at cX10_go 210 (.iaload) 1 211 := by decide +kernel
theorem dX10_go_211 : am_at cX10_go 211 (.iadd) 1 212 := by decide +kernel
theorem dX10_go_212 : am_at cX10_go 212 (.bipush 48) 2 214 := by decide +kernel
theorem dX10_go_214 : am_at cX10_go 214 (.isub) 1 215 := by decide +kernel
theorem dX10_go_215 : am_at cX10_go 215 (.goto 7) 3 218 := by decide +kernel
theorem dX10_go_218 : am_at cX10_go 218 (.aload_n 0) 1 219 := by decide +kernel
theorem dX10_go_219 : am_at cX10_go 219 (.getfield 232) 3 222 := by decide +kernel
theorem dX10_go_222 : am_at cX10_go 222 (.putfield 232) 3 225 := by decide +kernel
theorem dX10_go_225 : am_at cX10_go 225 (.aload_n 0) 1 226 := by decide +kernel
theorem dX10_go_226 : am_at cX10_go 226 (.dup) 1 227 := by decide +kernel
theorem dX10_go_227 : am_at cX10_go 227 (.getfield 217) 3 230 := by decide +kernel
theorem dX10_go_230 : am_at cX10_go 230 (.iconst 1) 1 231 := by decide +kernel
theorem dX10_go_231 : am_at cX10_go 231 (.iadd) 1 232 := by decide +kernel
theorem dX10_go_232 : am_at cX10_go 232 (.putfield 217) 3 235 := by decide +kernel
theorem dX10_go_235 : am_at cX10_go 235 (.goto (-65)) 3 238 := by decide +kernel
theorem dX10_go_238 : am_at cX10_go 238 (.aload_n 0) 1 239 := by decide +kernel
theorem dX10_go_239 : am_at cX10_go 239 (.iload_n 1) 1 240 := by decide +kernel
theorem dX10_go_240 : am_at cX10_go 240 (.ifCond .ne 16) 3 243 := by decide +kernel
theorem dX10_go_243 : am_at cX10_go 243 (.aload_n 0) 1 244 := by decide +kernel
theorem dX10_go_244 : am_at cX10_go 244 (.getfield 217) 3 247 := by decide +kernel
theorem dX10_go_247 : am_at cX10_go 247 (.aload_n 0) 1 248 := by decide +kernel
theorem dX10_go_248 : am_at cX10_go 248 (.getfield 220) 3 251 := by decide +kernel
theorem dX10_go_251 : am_at cX10_go 251 (.isub) 1 252 := by decide +kernel
theorem dX10_go_252 : am_at cX10_go 252 (.iconst 4) 1 253 := by decide +kernel
theorem dX10_go_253 : am_at cX10_go 253 (.if_icmp .le 7) 3 256 := by decide +kernel
theorem dX10_go_256 : am_at cX10_go 256 (.iconst 4) 1 257 := by decide +kernel
theorem dX10_go_257 : am_at cX10_go 257 (.goto 4) 3 260 := by decide +kernel
theorem dX10_go_260 : am_at cX10_go 260 (.iconst 2) 1 261 := by decide +kernel
theorem dX10_go_261 : am_at cX10_go 261 (.putfield 226) 3 264 := by decide +kernel
theorem dX10_go_264 : am_at cX10_go 264 (.aload_n 0) 1 265 := by decide +kernel
theorem dX10_go_265 : am_at cX10_go 265 (.aload_n 0) 1 266 := by decide +kernel
theorem dX10_go_266 : am_at cX10_go 266 (.getfield 217) 3 269 := by decide +kernel
theorem dX10_go_269 : am_at cX10_go 269 (.putfield 223) 3 272 := by decide +kernel
theorem dX10_go_272 : am_at cX10_go 272 (.goto 31) 3 275 := by decide +kernel
theorem dX10_go_275 : am_at cX10_go 275 (.aload_n 0) 1 276 := by decide +kernel
theorem dX10_go_276 : am_at cX10_go 276 (.iconst 3) 1 277 := by decide +kernel
theorem dX10_go_277 : am_at cX10_go 277 (.putfield 226) 3 280 := by decide +kernel
theorem dX10_go_280 : am_at cX10_go 280 (.aload_n 0) 1 281 := by decide +kernel
theorem dX10_go_281 : am_at cX10_go 281 (.aload_n 0) 1 282 := by decide +kernel
theorem dX10_go_282 : am_at cX10_go 282 (.getfield 31) 3 285 := by decide +kernel
theorem dX10_go_285 : am_at cX10_go 285 (.aload_n 0) 1 286 := by decide +kernel
theorem dX10_go_286 : am_at cX10_go 286 (.getfield 220) 3 289 := by decide +kernel
theorem dX10_go_289 : am_at cX10_go 289 (.iaload) 1 290 := by decide +kernel
theorem dX10_go_290 : am_at cX10_go 290 (.putfield 232) 3 293 := by decide +kernel
theorem dX10_go_293 : am_at cX10_go 293 (.aload_n 0) 1 294 := by decide +kernel
theorem dX10_go_294 : am_at cX10_go 294 (.dup) 1 295 := by decide +kernel
theorem dX10_go_295 : am_at cX10_go 295 (.getfield 217) 3 298 := by decide +kernel
theorem dX10_go_298 : am_at cX10_go 298 (.iconst 1) 1 299 := by decide +kernel
theorem dX10_go_299 : am_at cX10_go 299 (.iadd) 1 300 := by decide +kernel
theorem dX10_go_300 : am_at cX10_go 300 (.putfield 217) 3 303 := by decide +kernel
theorem dX10_go_303 : am_at cX10_go 303 (.return_) 1 304 := by decide +kernel
def fxX10_go_b127 (l0 : Option Nat) (s0 : Int32) (s1 : Option Nat) (h : am_H) : Option (Unit × am_H) := am_gd (am_ob h s1 10) (am_lt (am_si h s1 12 s0) (fun h34 => am_gd (am_ob h34 l0 10) (am_gd (am_ob h34 l0 10) (am_gd (am_ix h34 (am_gr h34 l0 8) 0 (am_gi h34 l0 11)) (am_gd (am_ob h34 l0 10) (am_lt (am_si h34 l0 13 (am_gi h34 (am_gr h34 l0 8) (am_gi h34 l0 11).toNatClampNeg)) (fun h35 => am_gd (am_ob h35 l0 10) (am_gd (am_ob h35 l0 10) (am_lt (am_si h35 l0 14 (am_gi h35 l0 10)) (fun h36 => some ((), h36)))))))))))
set_option maxRecDepth 100000 in
theorem sxX10_go_b127 {xs : List Int32} (l0 : Option Nat) (s0 : Int32) (s1 : Option Nat) (h : am_H) : am_Sm xs am_cu mX10_go 1 0 0 127 [some (am_R l0), none] [am_I s0, am_R s1] h (fxX10_go_b127 l0 s0 s1 h) := by
  unfold fxX10_go_b127
  refine am_putI dX10_go_127 fk_RX10_226 ⟨_, rfl, Or.inl rfl⟩ rfl (fun h34 => ?_)
  refine am_aload_n dX10_go_130 rfl ?_
  refine am_aload_n dX10_go_131 rfl ?_
  refine am_getR dX10_go_132 fk_RX10_31 rfl ?_
  refine am_aload_n dX10_go_135 rfl ?_
  refine am_getI dX10_go_136 fk_RX10_220 rfl ?_
  refine am_iald dX10_go_139 ?_
  refine am_putI dX10_go_140 fk_RX10_232 ⟨_, rfl, Or.inl rfl⟩ rfl (fun h35 => ?_)
  refine am_aload_n dX10_go_143 rfl ?_
  refine am_aload_n dX10_go_144 rfl ?_
  refine am_getI dX10_go_145 fk_RX10_217 rfl ?_
  refine am_putI dX10_go_148 fk_RX10_223 ⟨_, rfl, Or.inl rfl⟩ rfl (fun h36 => ?_)
  refine am_goto (tgt := 303) dX10_go_151 (by decide) ?_
  exact am_vret dX10_go_303 rfl rfl
def fxX10_go_b93 : Nat → Option Nat → Int32 → am_H → Option (Unit × am_H)
  | 0, _, _, _ => none
  | n + 1, l0, l1, h => am_gd (am_ob h l0 10) (am_gd (am_ob h l0 10) (am_bd (fxX10_isLetter l0 (am_gi h l0 10) h) (fun r25 h26 => if r25 = 0 then (if l1 = 0 then (fxX10_go_b127 l0 (1 : Int32) l0 h26) else (fxX10_go_b127 l0 (4 : Int32) l0 h26)) else (am_gd (am_ob h26 l0 10) (am_gd (am_ob h26 l0 10) (am_lt (am_si h26 l0 10 ((am_gi h26 l0 10) + (1 : Int32))) (fun h28 => fxX10_go_b93 n l0 l1 h28)))))))
set_option maxRecDepth 100000 in
theorem sxX10_go_b93 {xs : List Int32} : ∀ (n : Nat) (l0 : Option Nat) (l1 : Int32) (h : am_H), am_Sm xs am_cu mX10_go 1 0 0 93 [some (am_R l0), some (am_I l1)] [] h (fxX10_go_b93 n l0 l1 h) := by
  intro n
  induction n with
  | zero => intros; exact am_none
  | succ n ih =>
    intro l0 l1 h
    rw [fxX10_go_b93]
    refine am_aload_n dX10_go_93 rfl ?_
    refine am_aload_n dX10_go_94 rfl ?_
    refine am_getI dX10_go_95 fk_RX10_217 rfl ?_
    refine am_callV (cvj := am_ci) (mtj := mX10_isLetter) (dj := 0) (nj := 1) (rcj := 0) (rsj := 0) (rc' := 0) (rs' := 0) (ci := 10) (st' := fun a9 => (am_I a9 :: [])) ⟨_, rfl, rfl⟩ [am_I (am_gi h l0 10)] [] dX10_go_98 okX10_isLetter lk_RX10_229 (fun zA zH zE => txX10_isLetter l0 (am_gi h l0 10) h zA zH zE) rfl (fun _ => rfl) (by decide) rfl (Nat.le_of_ble_eq_true rfl) (by decide) (by decide) (fun r25 h26 => ?_)
    refine am_if_eq (tgt := 117) dX10_go_101 (by decide) (fun c29 => ?_) (fun c29 => ?_)
    · refine am_aload_n dX10_go_117 rfl ?_
      refine am_iload_n dX10_go_118 rfl ?_
      refine am_if_eq (tgt := 126) dX10_go_119 (by decide) (fun c27 => ?_) (fun c27 => ?_)
      · refine am_iconst (v := 1) dX10_go_126 (by decide) ?_
        exact am_weak (sxX10_go_b127 l0 (1 : Int32) l0 h26) ⟨rfl, trivial⟩ (Nat.le_refl _) (Nat.le_refl _)
      refine am_iconst (v := 4) dX10_go_122 (by decide) ?_
      refine am_goto (tgt := 127) dX10_go_123 (by decide) ?_
      exact am_weak (sxX10_go_b127 l0 (4 : Int32) l0 h26) ⟨rfl, trivial⟩ (Nat.le_refl _) (Nat.le_refl _)
    refine am_aload_n dX10_go_104 rfl ?_
    refine am_dup dX10_go_105 ?_
    refine am_getI dX10_go_106 fk_RX10_217 rfl ?_
    refine am_iconst (v := 1) dX10_go_109 (by decide) ?_
    refine am_iadd dX10_go_110 ?_
    refine am_putI dX10_go_111 fk_RX10_217 ⟨_, rfl, Or.inl rfl⟩ rfl (fun h28 => ?_)
    refine am_goto (tgt := 93) dX10_go_114 (by decide) ?_
    exact am_weak (ih l0 l1 h28) ⟨rfl, ⟨rfl, trivial⟩⟩ (Nat.le_refl _) (Nat.le_refl _)
def fxX10_go_b222 (k170 : Option Nat → Int32 → am_H → Option (Unit × am_H)) (l0 : Option Nat) (l1 : Int32) (s0 : Int32) (s1 : Option Nat) (h : am_H) : Option (Unit × am_H) := am_gd (am_ob h s1 10) (am_lt (am_si h s1 13 s0) (fun h32 => am_gd (am_ob h32 l0 10) (am_gd (am_ob h32 l0 10) (am_lt (am_si h32 l0 10 ((am_gi h32 l0 10) + (1 : Int32))) (fun h33 => k170 l0 l1 h33)))))
set_option maxRecDepth 100000 in
theorem sxX10_go_b222 {xs : List Int32} (k170 : Option Nat → Int32 → am_H → Option (Unit × am_H)) (hk170 : ∀ (l0 : Option Nat) (l1 : Int32) (h : am_H), am_Sm xs am_cu mX10_go 1 0 0 170 [some (am_R l0), some (am_I l1)] [] h (k170 l0 l1 h)) (l0 : Option Nat) (l1 : Int32) (s0 : Int32) (s1 : Option Nat) (h : am_H) : am_Sm xs am_cu mX10_go 1 0 0 222 [some (am_R l0), some (am_I l1)] [am_I s0, am_R s1] h (fxX10_go_b222 k170 l0 l1 s0 s1 h) := by
  unfold fxX10_go_b222
  refine am_putI dX10_go_222 fk_RX10_232 ⟨_, rfl, Or.inl rfl⟩ rfl (fun h32 => ?_)
  refine am_aload_n dX10_go_225 rfl ?_
  refine am_dup dX10_go_226 ?_
  refine am_getI dX10_go_227 fk_RX10_217 rfl ?_
  refine am_iconst (v := 1) dX10_go_230 (by decide) ?_
  refine am_iadd dX10_go_231 ?_
  refine am_putI dX10_go_232 fk_RX10_217 ⟨_, rfl, Or.inl rfl⟩ rfl (fun h33 => ?_)
  refine am_goto (tgt := 170) dX10_go_235 (by decide) ?_
  exact am_weak (hk170 l0 l1 h33) ⟨rfl, ⟨rfl, trivial⟩⟩ (Nat.le_refl _) (Nat.le_refl _)
def fxX10_go_b261 (l0 : Option Nat) (s0 : Int32) (s1 : Option Nat) (h : am_H) : Option (Unit × am_H) := am_gd (am_ob h s1 10) (am_lt (am_si h s1 12 s0) (fun h30 => am_gd (am_ob h30 l0 10) (am_gd (am_ob h30 l0 10) (am_lt (am_si h30 l0 14 (am_gi h30 l0 10)) (fun h31 => some ((), h31))))))
set_option maxRecDepth 100000 in
theorem sxX10_go_b261 {xs : List Int32} (l0 : Option Nat) (s0 : Int32) (s1 : Option Nat) (h : am_H) : am_Sm xs am_cu mX10_go 1 0 0 261 [some (am_R l0), none] [am_I s0, am_R s1] h (fxX10_go_b261 l0 s0 s1 h) := by
  unfold fxX10_go_b261
  refine am_putI dX10_go_261 fk_RX10_226 ⟨_, rfl, Or.inl rfl⟩ rfl (fun h30 => ?_)
  refine am_aload_n dX10_go_264 rfl ?_
  refine am_aload_n dX10_go_265 rfl ?_
  refine am_getI dX10_go_266 fk_RX10_217 rfl ?_
  refine am_putI dX10_go_269 fk_RX10_223 ⟨_, rfl, Or.inl rfl⟩ rfl (fun h31 => ?_)
  refine am_goto (tgt := 303) dX10_go_272 (by decide) ?_
  exact am_vret dX10_go_303 rfl rfl
def fxX10_go_b256 (l0 : Option Nat) (s0 : Option Nat) (h : am_H) : Option (Unit × am_H) := fxX10_go_b261 l0 (4 : Int32) s0 h
set_option maxRecDepth 100000 in
theorem sxX10_go_b256 {xs : List Int32} (l0 : Option Nat) (s0 : Option Nat) (h : am_H) : am_Sm xs am_cu mX10_go 1 0 0 256 [some (am_R l0), none] [am_R s0] h (fxX10_go_b256 l0 s0 h) := by
  unfold fxX10_go_b256
  refine am_iconst (v := 4) dX10_go_256 (by decide) ?_
  refine am_goto (tgt := 261) dX10_go_257 (by decide) ?_
  exact am_weak (sxX10_go_b261 l0 (4 : Int32) s0 h) ⟨rfl, trivial⟩ (Nat.le_refl _) (Nat.le_refl _)
def fxX10_go_b170 : Nat → Option Nat → Int32 → am_H → Option (Unit × am_H)
  | 0, _, _, _ => none
  | n + 1, l0, l1, h => am_gd (am_ob h l0 10) (am_gd (am_ob h l0 10) (am_bd (fxX10_isFigure l0 (am_gi h l0 10) h) (fun r19 h20 => if r19 = 0 then (if l1 = 0 then (am_gd (am_ob h20 l0 10) (am_gd (am_ob h20 l0 10) (if ((am_gi h20 l0 10) - (am_gi h20 l0 11)) ≤ (4 : Int32) then (fxX10_go_b261 l0 (2 : Int32) l0 h20) else (fxX10_go_b256 l0 l0 h20)))) else (fxX10_go_b256 l0 l0 h20)) else (am_gd (am_ob h20 l0 10) (am_gd (am_ob h20 l0 10) (if (4 : Int32) ≤ ((am_gi h20 l0 10) - (am_gi h20 l0 11)) then (am_gd (am_ob h20 l0 10) (fxX10_go_b222 (fxX10_go_b170 n) l0 l1 (am_gi h20 l0 13) l0 h20)) else (am_gd (am_ob h20 l0 10) (am_gd (am_ob h20 l0 10) (am_gd (am_ob h20 l0 10) (am_gd (am_ix h20 (am_gr h20 l0 8) 0 (am_gi h20 l0 10)) (fxX10_go_b222 (fxX10_go_b170 n) l0 l1 ((((10 : Int32) * (am_gi h20 l0 13)) + (am_gi h20 (am_gr h20 l0 8) (am_gi h20 l0 10).toNatClampNeg)) - (48 : Int32)) l0 h20)))))))))))
set_option maxRecDepth 100000 in
theorem sxX10_go_b170 {xs : List Int32} : ∀ (n : Nat) (l0 : Option Nat) (l1 : Int32) (h : am_H), am_Sm xs am_cu mX10_go 1 0 0 170 [some (am_R l0), some (am_I l1)] [] h (fxX10_go_b170 n l0 l1 h) := by
  intro n
  induction n with
  | zero => intros; exact am_none
  | succ n ih =>
    intro l0 l1 h
    rw [fxX10_go_b170]
    refine am_aload_n dX10_go_170 rfl ?_
    refine am_aload_n dX10_go_171 rfl ?_
    refine am_getI dX10_go_172 fk_RX10_217 rfl ?_
    refine am_callV (cvj := am_ci) (mtj := mX10_isFigure) (dj := 0) (nj := 1) (rcj := 0) (rsj := 0) (rc' := 0) (rs' := 0) (ci := 10) (st' := fun a9 => (am_I a9 :: [])) ⟨_, rfl, rfl⟩ [am_I (am_gi h l0 10)] [] dX10_go_175 okX10_isFigure lk_RX10_235 (fun zA zH zE => txX10_isFigure l0 (am_gi h l0 10) h zA zH zE) rfl (fun _ => rfl) (by decide) rfl (Nat.le_of_ble_eq_true rfl) (by decide) (by decide) (fun r19 h20 => ?_)
    refine am_if_eq (tgt := 238) dX10_go_178 (by decide) (fun c24 => ?_) (fun c24 => ?_)
    · refine am_aload_n dX10_go_238 rfl ?_
      refine am_iload_n dX10_go_239 rfl ?_
      refine am_if_ne (tgt := 256) dX10_go_240 (by decide) (fun c22 => ?_) (fun c22 => ?_)
      · exact am_weak (sxX10_go_b256 l0 l0 h20) ⟨rfl, trivial⟩ (Nat.le_refl _) (Nat.le_refl _)
      refine am_aload_n dX10_go_243 rfl ?_
      refine am_getI dX10_go_244 fk_RX10_217 rfl ?_
      refine am_aload_n dX10_go_247 rfl ?_
      refine am_getI dX10_go_248 fk_RX10_220 rfl ?_
      refine am_isub dX10_go_251 ?_
      refine am_iconst (v := 4) dX10_go_252 (by decide) ?_
      refine am_icmp_le (tgt := 260) dX10_go_253 (by decide) (fun c21 => ?_) (fun c21 => ?_)
      · refine am_iconst (v := 2) dX10_go_260 (by decide) ?_
        exact am_weak (sxX10_go_b261 l0 (2 : Int32) l0 h20) ⟨rfl, trivial⟩ (Nat.le_refl _) (Nat.le_refl _)
      exact am_weak (sxX10_go_b256 l0 l0 h20) ⟨rfl, trivial⟩ (Nat.le_refl _) (Nat.le_refl _)
    refine am_aload_n dX10_go_181 rfl ?_
    refine am_aload_n dX10_go_182 rfl ?_
    refine am_getI dX10_go_183 fk_RX10_217 rfl ?_
    refine am_aload_n dX10_go_186 rfl ?_
    refine am_getI dX10_go_187 fk_RX10_220 rfl ?_
    refine am_isub dX10_go_190 ?_
    refine am_iconst (v := 4) dX10_go_191 (by decide) ?_
    refine am_icmp_ge (tgt := 218) dX10_go_192 (by decide) (fun c23 => ?_) (fun c23 => ?_)
    · refine am_aload_n dX10_go_218 rfl ?_
      refine am_getI dX10_go_219 fk_RX10_232 rfl ?_
      exact am_weak (sxX10_go_b222 (fxX10_go_b170 n) ih l0 l1 (am_gi h20 l0 13) l0 h20) ⟨rfl, ⟨rfl, trivial⟩⟩ (Nat.le_refl _) (Nat.le_refl _)
    refine am_bipush (v := 10) dX10_go_195 (by decide) ?_
    refine am_aload_n dX10_go_197 rfl ?_
    refine am_getI dX10_go_198 fk_RX10_232 rfl ?_
    refine am_imul dX10_go_201 ?_
    refine am_aload_n dX10_go_202 rfl ?_
    refine am_getR dX10_go_203 fk_RX10_31 rfl ?_
    refine am_aload_n dX10_go_206 rfl ?_
    refine am_getI dX10_go_207 fk_RX10_217 rfl ?_
    refine am_iald dX10_go_210 ?_
    refine am_iadd dX10_go_211 ?_
    refine am_bipush (v := 48) dX10_go_212 (by decide) ?_
    refine am_isub dX10_go_214 ?_
    refine am_goto (tgt := 222) dX10_go_215 (by decide) ?_
    exact am_weak (sxX10_go_b222 (fxX10_go_b170 n) ih l0 l1 ((((10 : Int32) * (am_gi h20 l0 13)) + (am_gi h20 (am_gr h20 l0 8) (am_gi h20 l0 10).toNatClampNeg)) - (48 : Int32)) l0 h20) ⟨rfl, ⟨rfl, trivial⟩⟩ (Nat.le_refl _) (Nat.le_refl _)
def fxX10_go_b62 (l0 : Option Nat) (s0 : Int32) (h : am_H) : Option (Unit × am_H) := am_lt s0 (fun x6 => am_gd (am_ob h l0 10) (am_gd (am_ob h l0 10) (if (am_gi h l0 11) = (am_gi h l0 9) then (am_gd (am_ob h l0 10) (am_lt (am_si h l0 12 (0 : Int32)) (fun h17 => some ((), h17)))) else (am_gd (am_ob h l0 10) (am_gd (am_ob h l0 10) (am_bd (fxX10_isLetter l0 (am_gi h l0 11) h) (fun r7 h8 => if r7 = 0 then (am_gd (am_ob h8 l0 10) (am_gd (am_ob h8 l0 10) (am_bd (fxX10_isFigure l0 (am_gi h8 l0 11) h8) (fun r9 h10 => if r9 = 0 then (am_gd (am_ob h10 l0 10) (am_lt (am_si h10 l0 12 (3 : Int32)) (fun h11 => am_gd (am_ob h11 l0 10) (am_gd (am_ob h11 l0 10) (am_gd (am_ix h11 (am_gr h11 l0 8) 0 (am_gi h11 l0 11)) (am_gd (am_ob h11 l0 10) (am_lt (am_si h11 l0 13 (am_gi h11 (am_gr h11 l0 8) (am_gi h11 l0 11).toNatClampNeg)) (fun h12 => am_gd (am_ob h12 l0 10) (am_gd (am_ob h12 l0 10) (am_lt (am_si h12 l0 10 ((am_gi h12 l0 10) + (1 : Int32))) (fun h13 => some ((), h13)))))))))))) else (am_gd (am_ob h10 l0 10) (am_lt (am_si h10 l0 13 (0 : Int32)) (fun h14 => fxX10_go_b170 am_F l0 x6 h14))))))) else (fxX10_go_b93 am_F l0 x6 h8))))))))
set_option maxRecDepth 100000 in
theorem sxX10_go_b62 {xs : List Int32} (l0 : Option Nat) (s0 : Int32) (h : am_H) : am_Sm xs am_cu mX10_go 1 0 0 62 [some (am_R l0), none] [am_I s0] h (fxX10_go_b62 l0 s0 h) := by
  unfold fxX10_go_b62
  refine am_istore_n (LL := fun y9 => [some (am_R l0), some (am_I y9)]) dX10_go_62 (by decide) (fun _ => rfl) (fun x6 => ?_)
  refine am_aload_n dX10_go_63 rfl ?_
  refine am_getI dX10_go_64 fk_RX10_220 rfl ?_
  refine am_aload_n dX10_go_67 rfl ?_
  refine am_getI dX10_go_68 fk_RX10_213 rfl ?_
  refine am_icmp_ne (tgt := 82) dX10_go_71 (by decide) (fun c18 => ?_) (fun c18 => ?_)
  · refine am_aload_n dX10_go_82 rfl ?_
    refine am_aload_n dX10_go_83 rfl ?_
    refine am_getI dX10_go_84 fk_RX10_220 rfl ?_
    refine am_callV (cvj := am_ci) (mtj := mX10_isLetter) (dj := 0) (nj := 1) (rcj := 0) (rsj := 0) (rc' := 0) (rs' := 0) (ci := 10) (st' := fun a9 => (am_I a9 :: [])) ⟨_, rfl, rfl⟩ [am_I (am_gi h l0 11)] [] dX10_go_87 okX10_isLetter lk_RX10_229 (fun zA zH zE => txX10_isLetter l0 (am_gi h l0 11) h zA zH zE) rfl (fun _ => rfl) (by decide) rfl (Nat.le_of_ble_eq_true rfl) (by decide) (by decide) (fun r7 h8 => ?_)
    refine am_if_eq (tgt := 154) dX10_go_90 (by decide) (fun c16 => ?_) (fun c16 => ?_)
    · refine am_aload_n dX10_go_154 rfl ?_
      refine am_aload_n dX10_go_155 rfl ?_
      refine am_getI dX10_go_156 fk_RX10_220 rfl ?_
      refine am_callV (cvj := am_ci) (mtj := mX10_isFigure) (dj := 0) (nj := 1) (rcj := 0) (rsj := 0) (rc' := 0) (rs' := 0) (ci := 10) (st' := fun a9 => (am_I a9 :: [])) ⟨_, rfl, rfl⟩ [am_I (am_gi h8 l0 11)] [] dX10_go_159 okX10_isFigure lk_RX10_235 (fun zA zH zE => txX10_isFigure l0 (am_gi h8 l0 11) h8 zA zH zE) rfl (fun _ => rfl) (by decide) rfl (Nat.le_of_ble_eq_true rfl) (by decide) (by decide) (fun r9 h10 => ?_)
      refine am_if_eq (tgt := 275) dX10_go_162 (by decide) (fun c15 => ?_) (fun c15 => ?_)
      · refine am_aload_n dX10_go_275 rfl ?_
        refine am_iconst (v := 3) dX10_go_276 (by decide) ?_
        refine am_putI dX10_go_277 fk_RX10_226 ⟨_, rfl, Or.inl rfl⟩ rfl (fun h11 => ?_)
        refine am_aload_n dX10_go_280 rfl ?_
        refine am_aload_n dX10_go_281 rfl ?_
        refine am_getR dX10_go_282 fk_RX10_31 rfl ?_
        refine am_aload_n dX10_go_285 rfl ?_
        refine am_getI dX10_go_286 fk_RX10_220 rfl ?_
        refine am_iald dX10_go_289 ?_
        refine am_putI dX10_go_290 fk_RX10_232 ⟨_, rfl, Or.inl rfl⟩ rfl (fun h12 => ?_)
        refine am_aload_n dX10_go_293 rfl ?_
        refine am_dup dX10_go_294 ?_
        refine am_getI dX10_go_295 fk_RX10_217 rfl ?_
        refine am_iconst (v := 1) dX10_go_298 (by decide) ?_
        refine am_iadd dX10_go_299 ?_
        refine am_putI dX10_go_300 fk_RX10_217 ⟨_, rfl, Or.inl rfl⟩ rfl (fun h13 => ?_)
        exact am_vret dX10_go_303 rfl rfl
      refine am_aload_n dX10_go_165 rfl ?_
      refine am_iconst (v := 0) dX10_go_166 (by decide) ?_
      refine am_putI dX10_go_167 fk_RX10_232 ⟨_, rfl, Or.inl rfl⟩ rfl (fun h14 => ?_)
      exact am_weak (sxX10_go_b170 am_F l0 x6 h14) ⟨rfl, ⟨rfl, trivial⟩⟩ (Nat.le_refl _) (Nat.le_refl _)
    exact am_weak (sxX10_go_b93 am_F l0 x6 h8) ⟨rfl, ⟨rfl, trivial⟩⟩ (Nat.le_refl _) (Nat.le_refl _)
  refine am_aload_n dX10_go_74 rfl ?_
  refine am_iconst (v := 0) dX10_go_75 (by decide) ?_
  refine am_putI dX10_go_76 fk_RX10_226 ⟨_, rfl, Or.inl rfl⟩ rfl (fun h17 => ?_)
  refine am_goto (tgt := 303) dX10_go_79 (by decide) ?_
  exact am_vret dX10_go_303 rfl rfl
def fxX10_go_b38 (l0 : Option Nat) (h : am_H) : Option (Unit × am_H) := am_gd (am_ob h l0 10) (am_gd (am_ob h l0 10) (am_lt (am_si h l0 11 (am_gi h l0 10)) (fun h4 => am_gd (am_ob h4 l0 10) (am_gd (am_ob h4 l0 10) (if (am_gi h4 l0 11) = (am_gi h4 l0 14) then (fxX10_go_b62 l0 (1 : Int32) h4) else (fxX10_go_b62 l0 (0 : Int32) h4))))))
set_option maxRecDepth 100000 in
theorem sxX10_go_b38 {xs : List Int32} (l0 : Option Nat) (h : am_H) : am_Sm xs am_cu mX10_go 1 0 0 38 [some (am_R l0), none] [] h (fxX10_go_b38 l0 h) := by
  unfold fxX10_go_b38
  refine am_aload_n dX10_go_38 rfl ?_
  refine am_aload_n dX10_go_39 rfl ?_
  refine am_getI dX10_go_40 fk_RX10_217 rfl ?_
  refine am_putI dX10_go_43 fk_RX10_220 ⟨_, rfl, Or.inl rfl⟩ rfl (fun h4 => ?_)
  refine am_aload_n dX10_go_46 rfl ?_
  refine am_getI dX10_go_47 fk_RX10_220 rfl ?_
  refine am_aload_n dX10_go_50 rfl ?_
  refine am_getI dX10_go_51 fk_RX10_223 rfl ?_
  refine am_icmp_ne (tgt := 61) dX10_go_54 (by decide) (fun c5 => ?_) (fun c5 => ?_)
  · refine am_iconst (v := 0) dX10_go_61 (by decide) ?_
    exact am_weak (sxX10_go_b62 l0 (0 : Int32) h4) ⟨rfl, trivial⟩ (Nat.le_refl _) (Nat.le_refl _)
  refine am_iconst (v := 1) dX10_go_57 (by decide) ?_
  refine am_goto (tgt := 62) dX10_go_58 (by decide) ?_
  exact am_weak (sxX10_go_b62 l0 (1 : Int32) h4) ⟨rfl, trivial⟩ (Nat.le_refl _) (Nat.le_refl _)
def fxX10_go_b0 : Nat → Option Nat → am_H → Option (Unit × am_H)
  | 0, _, _ => none
  | n + 1, l0, h => am_gd (am_ob h l0 10) (am_gd (am_ob h l0 10) (if (am_gi h l0 9) ≤ (am_gi h l0 10) then (fxX10_go_b38 l0 h) else (am_gd (am_ob h l0 10) (am_gd (am_ob h l0 10) (am_gd (am_ix h (am_gr h l0 8) 0 (am_gi h l0 10)) (if (am_gi h (am_gr h l0 8) (am_gi h l0 10).toNatClampNeg) = (32 : Int32) then (am_gd (am_ob h l0 10) (am_gd (am_ob h l0 10) (am_lt (am_si h l0 10 ((am_gi h l0 10) + (1 : Int32))) (fun h1 => fxX10_go_b0 n l0 h1)))) else (fxX10_go_b38 l0 h)))))))
set_option maxRecDepth 100000 in
theorem sxX10_go_b0 {xs : List Int32} : ∀ (n : Nat) (l0 : Option Nat) (h : am_H), am_Sm xs am_cu mX10_go 1 0 0 0 [some (am_R l0), none] [] h (fxX10_go_b0 n l0 h) := by
  intro n
  induction n with
  | zero => intros; exact am_none
  | succ n ih =>
    intro l0 h
    rw [fxX10_go_b0]
    refine am_aload_n dX10_go_0 rfl ?_
    refine am_getI dX10_go_1 fk_RX10_217 rfl ?_
    refine am_aload_n dX10_go_4 rfl ?_
    refine am_getI dX10_go_5 fk_RX10_213 rfl ?_
    refine am_icmp_ge (tgt := 38) dX10_go_8 (by decide) (fun c3 => ?_) (fun c3 => ?_)
    · exact am_weak (sxX10_go_b38 l0 h) ⟨rfl, trivial⟩ (Nat.le_refl _) (Nat.le_refl _)
    refine am_aload_n dX10_go_11 rfl ?_
    refine am_getR dX10_go_12 fk_RX10_31 rfl ?_
    refine am_aload_n dX10_go_15 rfl ?_
    refine am_getI dX10_go_16 fk_RX10_217 rfl ?_
    refine am_iald dX10_go_19 ?_
    refine am_bipush (v := 32) dX10_go_20 (by decide) ?_
    refine am_icmp_ne (tgt := 38) dX10_go_22 (by decide) (fun c2 => ?_) (fun c2 => ?_)
    · exact am_weak (sxX10_go_b38 l0 h) ⟨rfl, trivial⟩ (Nat.le_refl _) (Nat.le_refl _)
    refine am_aload_n dX10_go_25 rfl ?_
    refine am_dup dX10_go_26 ?_
    refine am_getI dX10_go_27 fk_RX10_217 rfl ?_
    refine am_iconst (v := 1) dX10_go_30 (by decide) ?_
    refine am_iadd dX10_go_31 ?_
    refine am_putI dX10_go_32 fk_RX10_217 ⟨_, rfl, Or.inl rfl⟩ rfl (fun h1 => ?_)
    refine am_goto (tgt := 0) dX10_go_35 (by decide) ?_
    exact am_weak (ih l0 h1) ⟨rfl, trivial⟩ (Nat.le_refl _) (Nat.le_refl _)
def fxX10_go (l0 : Option Nat) (h : am_H) : Option (Unit × am_H) := fxX10_go_b0 am_F l0 h
set_option maxRecDepth 100000 in
theorem sxX10_go {xs : List Int32} (l0 : Option Nat) (h : am_H) : am_Sm xs am_cu mX10_go 1 0 0 0 [some (am_R l0), none] [] h (fxX10_go l0 h) := by
  unfold fxX10_go
  exact am_weak (sxX10_go_b0 am_F l0 h) ⟨rfl, trivial⟩ (Nat.le_refl _) (Nat.le_refl _)
theorem txX10_go {xs : List Int32} (l0 : Option Nat) (h : am_H) (a : Unit) (h2 : am_H) (e : fxX10_go l0 h = some (a, h2)) : am_Ct xs mX10_go 1 0 0 [am_R l0] h (fun v h3 => v = am_cu a ∧ h3 = h2) := am_meth okX10_go (Nat.le_of_ble_eq_true rfl) rfl (sxX10_go l0 h) e
