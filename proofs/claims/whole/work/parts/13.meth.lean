theorem dX5_hasNumber_0 : am_at cX5_hasNumber 0 (.aload_n 0) 1 1 := by decide +kernel
theorem dX5_hasNumber_1 : am_at cX5_hasNumber 1 (.iload_n 1) 1 2 := by decide +kernel
theorem dX5_hasNumber_2 : am_at cX5_hasNumber 2 (.invokevirtual 32) 3 5 := by decide +kernel
theorem dX5_hasNumber_5 : am_at cX5_hasNumber 5 (.ifCond .eq 18) 3 8 := by decide +kernel
theorem dX5_hasNumber_8 : am_at cX5_hasNumber 8 (.aload_n 0) 1 9 := by decide +kernel
theorem dX5_hasNumber_9 : am_at cX5_hasNumber 9 (.getfield 18) 3 12 := by decide +kernel
theorem dX5_hasNumber_12 : am_at cX5_hasNumber 12 (.iload_n 1) 1 13 := by decide +kernel
theorem dX5_hasNumber_13 : am_at cX5_hasNumber 13 (.iaload) 1 14 := by decide +kernel
theorem dX5_hasNumber_14 : am_at cX5_hasNumber 14 (.ldc 36) 2 16 := by decide +kernel
theorem dX5_hasNumber_16 : am_at cX5_hasNumber 16 (.if_icmp .eq 7) 3 19 := by decide +kernel
theorem dX5_hasNumber_19 : am_at cX5_hasNumber 19 (.iconst 1) 1 20 := by decide +kernel
theorem dX5_hasNumber_20 : am_at cX5_hasNumber 20 (.goto 4) 3 23 := by decide +kernel
theorem dX5_hasNumber_23 : am_at cX5_hasNumber 23 (.iconst 0) 1 24 := by decide +kernel
theorem dX5_hasNumber_24 : am_at cX5_hasNumber 24 (.ireturn) 1 25 := by decide +kernel
def fxX5_hasNumber (l0 : Option Nat) (l1 : Int32) (h : am_H) : Option (Int32 × am_H) := am_gd (am_ob h l0 5) (am_bd (fxX5_hasPlace l0 l1 h) (fun r1 h2 => if r1 = 0 then (am_gd (am_bz (0 : Int32)) (some ((0 : Int32), h2))) else (am_gd (am_ob h2 l0 5) (am_gd (am_ix h2 (am_gr h2 l0 2) 0 l1) (if (am_gi h2 (am_gr h2 l0 2) l1.toNatClampNeg) = (-1000000005 : Int32) then (am_gd (am_bz (0 : Int32)) (some ((0 : Int32), h2))) else (am_gd (am_bz (1 : Int32)) (some ((1 : Int32), h2))))))))
set_option maxRecDepth 100000 in
theorem sxX5_hasNumber {xs : List Int32} (l0 : Option Nat) (l1 : Int32) (h : am_H) : am_Sm xs am_ci mX5_hasNumber 2 0 0 0 [some (am_R l0), some (am_I l1)] [] h (fxX5_hasNumber l0 l1 h) := by
  unfold fxX5_hasNumber
  refine am_aload_n dX5_hasNumber_0 rfl ?_
  refine am_iload_n dX5_hasNumber_1 rfl ?_
  refine am_callV (cvj := am_ci) (mtj := mX5_hasPlace) (dj := 1) (nj := 1) (rcj := 0) (rsj := 0) (rc' := 0) (rs' := 0) (ci := 5) (st' := fun a9 => (am_I a9 :: [])) ⟨_, rfl, rfl⟩ [am_I l1] [] dX5_hasNumber_2 okX5_hasPlace lk_RX5_32 (fun zA zH zE => txX5_hasPlace l0 l1 h zA zH zE) rfl (fun _ => rfl) (by decide) rfl (Nat.le_of_ble_eq_true rfl) (by decide) (by decide) (fun r1 h2 => ?_)
  refine am_if_eq (tgt := 23) dX5_hasNumber_5 (by decide) (fun c4 => ?_) (fun c4 => ?_)
  · refine am_iconst (v := 0) dX5_hasNumber_23 (by decide) ?_
    exact am_zret dX5_hasNumber_24 rfl rfl
  refine am_aload_n dX5_hasNumber_8 rfl ?_
  refine am_getR dX5_hasNumber_9 fk_RX5_18 rfl ?_
  refine am_iload_n dX5_hasNumber_12 rfl ?_
  refine am_iald dX5_hasNumber_13 ?_
  refine am_ldc (v := (-1000000005)) dX5_hasNumber_14 wd517 ?_
  refine am_icmp_eq (tgt := 23) dX5_hasNumber_16 (by decide) (fun c3 => ?_) (fun c3 => ?_)
  · refine am_iconst (v := 0) dX5_hasNumber_23 (by decide) ?_
    exact am_zret dX5_hasNumber_24 rfl rfl
  refine am_iconst (v := 1) dX5_hasNumber_19 (by decide) ?_
  refine am_goto (tgt := 24) dX5_hasNumber_20 (by decide) ?_
  exact am_zret dX5_hasNumber_24 rfl rfl
theorem txX5_hasNumber {xs : List Int32} (l0 : Option Nat) (l1 : Int32) (h : am_H) (a : Int32) (h2 : am_H) (e : fxX5_hasNumber l0 l1 h = some (a, h2)) : am_Ct xs mX5_hasNumber 2 0 0 [am_R l0, am_I l1] h (fun v h3 => v = am_ci a ∧ h3 = h2) := am_meth okX5_hasNumber (Nat.le_of_ble_eq_true rfl) rfl (sxX5_hasNumber l0 l1 h) e
theorem dX6_findingFor_0 : am_at cX6_findingFor 0 (.aload_n 0) 1 1 := by decide +kernel
theorem dX6_findingFor_1 : am_at cX6_findingFor 1 (.getfield 9) 3 4 := by decide +kernel
theorem dX6_findingFor_4 : am_at cX6_findingFor 4 (.ifCond .ne 6) 3 7 := by decide +kernel
theorem dX6_findingFor_7 : am_at cX6_findingFor 7 (.ldc 32) 2 9 := by decide +kernel
theorem dX6_findingFor_9 : am_at cX6_findingFor 9 (.ireturn) 1 10 := by decide +kernel
theorem dX6_findingFor_10 : am_at cX6_findingFor 10 (.aload_n 0) 1 11 := by decide +kernel
theorem dX6_findingFor_11 : am_at cX6_findingFor 11 (.getfield 9) 3 14 := by decide +kernel
theorem dX6_findingFor_14 : am_at cX6_findingFor 14 (.iload_n 1) 1 15 := by decide +kernel
theorem dX6_findingFor_15 : am_at cX6_findingFor 15 (.if_icmp .ne 7) 3 18 := by decide +kernel
theorem dX6_findingFor_18 : am_at cX6_findingFor 18 (.iconst 0) 1 19 := by decide +kernel
theorem dX6_findingFor_19 : am_at cX6_findingFor 19 (.goto 5) 3 22 := by decide +kernel
theorem dX6_findingFor_22 : am_at cX6_findingFor 22 (.ldc 33) 2 24 := by decide +kernel
theorem dX6_findingFor_24 : am_at cX6_findingFor 24 (.ireturn) 1 25 := by decide +kernel
def fxX6_findingFor (l0 : Option Nat) (l1 : Int32) (h : am_H) : Option (Int32 × am_H) := am_gd (am_ob h l0 6) (if (am_gi h l0 0) = 0 then (some ((-1000000011 : Int32), h)) else (am_gd (am_ob h l0 6) (if (am_gi h l0 0) = l1 then (some ((0 : Int32), h)) else (some ((-1000000012 : Int32), h)))))
set_option maxRecDepth 100000 in
theorem sxX6_findingFor {xs : List Int32} (l0 : Option Nat) (l1 : Int32) (h : am_H) : am_Sm xs am_ci mX6_findingFor 0 0 0 0 [some (am_R l0), some (am_I l1)] [] h (fxX6_findingFor l0 l1 h) := by
  unfold fxX6_findingFor
  refine am_aload_n dX6_findingFor_0 rfl ?_
  refine am_getI dX6_findingFor_1 fk_RX6_9 rfl ?_
  refine am_if_ne (tgt := 10) dX6_findingFor_4 (by decide) (fun c2 => ?_) (fun c2 => ?_)
  · refine am_aload_n dX6_findingFor_10 rfl ?_
    refine am_getI dX6_findingFor_11 fk_RX6_9 rfl ?_
    refine am_iload_n dX6_findingFor_14 rfl ?_
    refine am_icmp_ne (tgt := 22) dX6_findingFor_15 (by decide) (fun c1 => ?_) (fun c1 => ?_)
    · refine am_ldc (v := (-1000000012)) dX6_findingFor_22 wd902 ?_
      exact am_iret dX6_findingFor_24 rfl rfl
    refine am_iconst (v := 0) dX6_findingFor_18 (by decide) ?_
    refine am_goto (tgt := 24) dX6_findingFor_19 (by decide) ?_
    exact am_iret dX6_findingFor_24 rfl rfl
  refine am_ldc (v := (-1000000011)) dX6_findingFor_7 wd901 ?_
  exact am_iret dX6_findingFor_9 rfl rfl
theorem txX6_findingFor {xs : List Int32} (l0 : Option Nat) (l1 : Int32) (h : am_H) (a : Int32) (h2 : am_H) (e : fxX6_findingFor l0 l1 h = some (a, h2)) : am_Ct xs mX6_findingFor 0 0 0 [am_R l0, am_I l1] h (fun v h3 => v = am_ci a ∧ h3 = h2) := am_meth okX6_findingFor (Nat.le_of_ble_eq_true rfl) rfl (sxX6_findingFor l0 l1 h) e
theorem dX7_weigh_0 : am_at cX7_weigh 0 (.aload_n 0) 1 1 := by decide +kernel
theorem dX7_weigh_1 : am_at cX7_weigh 1 (.aload_n 1) 1 2 := by decide +kernel
theorem dX7_weigh_2 : am_at cX7_weigh 2 (.getfield 25) 3 5 := by decide +kernel
theorem dX7_weigh_5 : am_at cX7_weigh 5 (.putfield 21) 3 8 := by decide +kernel
theorem dX7_weigh_8 : am_at cX7_weigh 8 (.iconst 0) 1 9 := by decide +kernel
theorem dX7_weigh_9 : am_at cX7_weigh 9 (.istore_n 3) 1 10 := by decide +kernel
theorem dX7_weigh_10 : am_at cX7_weigh 10 (.iload_n 3) 1 11 := by decide +kernel
theorem dX7_weigh_11 : am_at cX7_weigh 11 (.aload_n 0) 1 12 := by decide +kernel
theorem dX7_weigh_12 : am_at cX7_weigh 12 (.getfield 21) 3 15 := by decide +kernel
theorem dX7_weigh_15 : am_at cX7_weigh 15 (.if_icmp .ge 67) 3 18 := by decide +kernel
theorem dX7_weigh_18 : am_at cX7_weigh 18 (.iload_n 3) 1 19 := by decide +kernel
theorem dX7_weigh_19 : am_at cX7_weigh 19 (.iconst 1) 1 20 := by decide +kernel
theorem dX7_weigh_20 : am_at cX7_weigh 20 (.iadd) 1 21 := by decide +kernel
theorem dX7_weigh_21 : am_at cX7_weigh 21 (.istore 4) 2 23 := by decide +kernel
theorem dX7_weigh_23 : am_at cX7_weigh 23 (.iload 4) 2 25 := by decide +kernel
theorem dX7_weigh_25 : am_at cX7_weigh 25 (.aload_n 0) 1 26 := by decide +kernel
theorem dX7_weigh_26 : am_at cX7_weigh 26 (.getfield 21) 3 29 := by decide +kernel
theorem dX7_weigh_29 : am_at cX7_weigh 29 (.if_icmp .ge 47) 3 32 := by decide +kernel
theorem dX7_weigh_32 : am_at cX7_weigh 32 (.aload_n 1) 1 33 := by decide +kernel
theorem dX7_weigh_33 : am_at cX7_weigh 33 (.iload_n 3) 1 34 := by decide +kernel
theorem dX7_weigh_34 : am_at cX7_weigh 34 (.iload 4) 2 36 := by decide +kernel
theorem dX7_weigh_36 : am_at cX7_weigh 36 (.aload_n 2) 1 37 := by decide +kernel
theorem dX7_weigh_37 : am_at cX7_weigh 37 (.invokevirtual 30) 3 40 := by decide +kernel
theorem dX7_weigh_40 : am_at cX7_weigh 40 (.istore 5) 2 42 := by decide +kernel
theorem dX7_weigh_42 : am_at cX7_weigh 42 (.aload_n 0) 1 43 := by decide +kernel
theorem dX7_weigh_43 : am_at cX7_weigh 43 (.getfield 9) 3 46 := by decide +kernel
theorem dX7_weigh_46 : am_at cX7_weigh 46 (.iload_n 3) 1 47 := by decide +kernel
theorem dX7_weigh_47 : am_at cX7_weigh 47 (.bipush 10) 2 49 := by decide +kernel
theorem dX7_weigh_49 : am_at cX7_weigh 49 (.imul) 1 50 := by decide +kernel
theorem dX7_weigh_50 : am_at cX7_weigh 50 (.iload 4) 2 52 := by decide +kernel
theorem dX7_weigh_52 : am_at cX7_weigh 52 (.iadd) 1 53 := by decide +kernel
theorem dX7_weigh_53 : am_at cX7_weigh 53 (.iload 5) 2 55 := by decide +kernel
theorem dX7_weigh_55 : am_at cX7_weigh 55 (.iastore) 1 56 := by decide +kernel
theorem dX7_weigh_56 : am_at cX7_weigh 56 (.aload_n 0) 1 57 := by decide +kernel
theorem dX7_weigh_57 : am_at cX7_weigh 57 (.getfield 9) 3 60 := by decide +kernel
theorem dX7_weigh_60 : am_at cX7_weigh 60 (.iload 4) 2 62 := by decide +kernel
theorem dX7_weigh_62 : am_at cX7_weigh 62 (.bipush 10) 2 64 := by decide +kernel
theorem dX7_weigh_64 : am_at cX7_weigh 64 (.imul) 1 65 := by decide +kernel
theorem dX7_weigh_65 : am_at cX7_weigh 65 (.iload_n 3) 1 66 := by decide +kernel
theorem dX7_weigh_66 : am_at cX7_weigh 66 (.iadd) 1 67 := by decide +kernel
theorem dX7_weigh_67 : am_at cX7_weigh 67 (.iload 5) 2 69 := by decide +kernel
theorem dX7_weigh_69 : am_at cX7_weigh 69 (.iastore) 1 70 := by decide +kernel
theorem dX7_weigh_70 : am_at cX7_weigh 70 (.iinc 4 1) 3 73 := by decide +kernel
theorem dX7_weigh_73 : am_at cX7_weigh 73 (.goto (-50)) 3 76 := by decide +kernel
theorem dX7_weigh_76 : am_at cX7_weigh 76 (.iinc 3 1) 3 79 := by decide +kernel
theorem dX7_weigh_79 : am_at cX7_weigh 79 (.goto (-69)) 3 82 := by decide +kernel
theorem dX7_weigh_82 : am_at cX7_weigh 82 (.return_) 1 83 := by decide +kernel
def fxX7_weigh_b23 (k10 : Option Nat → Option Nat → Option Nat → Int32 → am_H → Option (Unit × am_H)) : Nat → Option Nat → Option Nat → Option Nat → Int32 → Int32 → am_H → Option (Unit × am_H)
  | 0, _, _, _, _, _, _ => none
  | n + 1, l0, l1, l2, l3, l4, h => am_gd (am_ob h l0 7) (if (am_gi h l0 3) ≤ l4 then (am_lt (l3 + 1) (fun x5 => k10 l0 l1 l2 x5 h)) else (am_gd (am_ob h l1 2) (am_bd (fxX2_pairValue l1 l3 l4 l2 h) (fun r6 h7 => am_lt r6 (fun x8 => am_gd (am_ob h7 l0 7) (am_gd (am_ix h7 (am_gr h7 l0 0) 0 ((l3 * (10 : Int32)) + l4)) (am_lt (am_si h7 (am_gr h7 l0 0) ((l3 * (10 : Int32)) + l4).toNatClampNeg x8) (fun h9 => am_gd (am_ob h9 l0 7) (am_gd (am_ix h9 (am_gr h9 l0 0) 0 ((l4 * (10 : Int32)) + l3)) (am_lt (am_si h9 (am_gr h9 l0 0) ((l4 * (10 : Int32)) + l3).toNatClampNeg x8) (fun h10 => am_lt (l4 + 1) (fun x11 => fxX7_weigh_b23 k10 n l0 l1 l2 l3 x11 h10))))))))))))
set_option maxRecDepth 100000 in
theorem sxX7_weigh_b23 {xs : List Int32} (k10 : Option Nat → Option Nat → Option Nat → Int32 → am_H → Option (Unit × am_H)) (hk10 : ∀ (l0 : Option Nat) (l1 : Option Nat) (l2 : Option Nat) (l3 : Int32) (h : am_H), am_Sm xs am_cu mX7_weigh 4 0 0 10 [some (am_R l0), some (am_R l1), some (am_R l2), some (am_I l3), none, none] [] h (k10 l0 l1 l2 l3 h)) : ∀ (n : Nat) (l0 : Option Nat) (l1 : Option Nat) (l2 : Option Nat) (l3 : Int32) (l4 : Int32) (h : am_H), am_Sm xs am_cu mX7_weigh 4 0 0 23 [some (am_R l0), some (am_R l1), some (am_R l2), some (am_I l3), some (am_I l4), none] [] h (fxX7_weigh_b23 k10 n l0 l1 l2 l3 l4 h) := by
  intro n
  induction n with
  | zero => intros; exact am_none
  | succ n ih =>
    intro l0 l1 l2 l3 l4 h
    rw [fxX7_weigh_b23]
    refine am_iload dX7_weigh_23 rfl ?_
    refine am_aload_n dX7_weigh_25 rfl ?_
    refine am_getI dX7_weigh_26 fk_RX7_21 rfl ?_
    refine am_icmp_ge (tgt := 76) dX7_weigh_29 (by decide) (fun c12 => ?_) (fun c12 => ?_)
    · refine am_iinc (v := 1) (LL := fun y9 => [some (am_R l0), some (am_R l1), some (am_R l2), some (am_I y9), some (am_I l4), none]) dX7_weigh_76 (by decide) rfl (by decide) (fun _ => rfl) (fun x5 => ?_)
      refine am_goto (tgt := 10) dX7_weigh_79 (by decide) ?_
      exact am_weak (hk10 l0 l1 l2 x5 h) ⟨rfl, ⟨rfl, ⟨rfl, ⟨rfl, trivial⟩⟩⟩⟩ (Nat.le_refl _) (Nat.le_refl _)
    refine am_aload_n dX7_weigh_32 rfl ?_
    refine am_iload_n dX7_weigh_33 rfl ?_
    refine am_iload dX7_weigh_34 rfl ?_
    refine am_aload_n dX7_weigh_36 rfl ?_
    refine am_callV (cvj := am_ci) (mtj := mX2_pairValue) (dj := 3) (nj := 3) (rcj := 0) (rsj := 0) (rc' := 0) (rs' := 0) (ci := 2) (st' := fun a9 => (am_I a9 :: [])) ⟨_, rfl, rfl⟩ [am_I l3, am_I l4, am_R l2] [] dX7_weigh_37 okX2_pairValue lk_RX7_30 (fun zA zH zE => txX2_pairValue l1 l3 l4 l2 h zA zH zE) rfl (fun _ => rfl) (by decide) rfl (Nat.le_of_ble_eq_true rfl) (by decide) (by decide) (fun r6 h7 => ?_)
    refine am_istore (LL := fun y9 => [some (am_R l0), some (am_R l1), some (am_R l2), some (am_I l3), some (am_I l4), some (am_I y9)]) dX7_weigh_40 (by decide) (fun _ => rfl) (fun x8 => ?_)
    refine am_aload_n dX7_weigh_42 rfl ?_
    refine am_getR dX7_weigh_43 fk_RX7_9 rfl ?_
    refine am_iload_n dX7_weigh_46 rfl ?_
    refine am_bipush (v := 10) dX7_weigh_47 (by decide) ?_
    refine am_imul dX7_weigh_49 ?_
    refine am_iload dX7_weigh_50 rfl ?_
    refine am_iadd dX7_weigh_52 ?_
    refine am_iload dX7_weigh_53 rfl ?_
    refine am_iast dX7_weigh_55 (fun h9 => ?_)
    refine am_aload_n dX7_weigh_56 rfl ?_
    refine am_getR dX7_weigh_57 fk_RX7_9 rfl ?_
    refine am_iload dX7_weigh_60 rfl ?_
    refine am_bipush (v := 10) dX7_weigh_62 (by decide) ?_
    refine am_imul dX7_weigh_64 ?_
    refine am_iload_n dX7_weigh_65 rfl ?_
    refine am_iadd dX7_weigh_66 ?_
    refine am_iload dX7_weigh_67 rfl ?_
    refine am_iast dX7_weigh_69 (fun h10 => ?_)
    refine am_iinc (v := 1) (LL := fun y9 => [some (am_R l0), some (am_R l1), some (am_R l2), some (am_I l3), some (am_I y9), some (am_I x8)]) dX7_weigh_70 (by decide) rfl (by decide) (fun _ => rfl) (fun x11 => ?_)
    refine am_goto (tgt := 23) dX7_weigh_73 (by decide) ?_
    exact am_weak (ih l0 l1 l2 l3 x11 h10) ⟨rfl, ⟨rfl, ⟨rfl, ⟨rfl, ⟨rfl, trivial⟩⟩⟩⟩⟩ (Nat.le_refl _) (Nat.le_refl _)
def fxX7_weigh_b10 : Nat → Option Nat → Option Nat → Option Nat → Int32 → am_H → Option (Unit × am_H)
  | 0, _, _, _, _, _ => none
  | n + 1, l0, l1, l2, l3, h => am_gd (am_ob h l0 7) (if (am_gi h l0 3) ≤ l3 then (some ((), h)) else (am_lt (l3 + (1 : Int32)) (fun x3 => fxX7_weigh_b23 (fxX7_weigh_b10 n) am_F l0 l1 l2 l3 x3 h)))
set_option maxRecDepth 100000 in
theorem sxX7_weigh_b10 {xs : List Int32} : ∀ (n : Nat) (l0 : Option Nat) (l1 : Option Nat) (l2 : Option Nat) (l3 : Int32) (h : am_H), am_Sm xs am_cu mX7_weigh 4 0 0 10 [some (am_R l0), some (am_R l1), some (am_R l2), some (am_I l3), none, none] [] h (fxX7_weigh_b10 n l0 l1 l2 l3 h) := by
  intro n
  induction n with
  | zero => intros; exact am_none
  | succ n ih =>
    intro l0 l1 l2 l3 h
    rw [fxX7_weigh_b10]
    refine am_iload_n dX7_weigh_10 rfl ?_
    refine am_aload_n dX7_weigh_11 rfl ?_
    refine am_getI dX7_weigh_12 fk_RX7_21 rfl ?_
    refine am_icmp_ge (tgt := 82) dX7_weigh_15 (by decide) (fun c4 => ?_) (fun c4 => ?_)
    · exact am_vret dX7_weigh_82 rfl rfl
    refine am_iload_n dX7_weigh_18 rfl ?_
    refine am_iconst (v := 1) dX7_weigh_19 (by decide) ?_
    refine am_iadd dX7_weigh_20 ?_
    refine am_istore (LL := fun y9 => [some (am_R l0), some (am_R l1), some (am_R l2), some (am_I l3), some (am_I y9), none]) dX7_weigh_21 (by decide) (fun _ => rfl) (fun x3 => ?_)
    exact am_weak (sxX7_weigh_b23 (fxX7_weigh_b10 n) ih am_F l0 l1 l2 l3 x3 h) ⟨rfl, ⟨rfl, ⟨rfl, ⟨rfl, ⟨rfl, trivial⟩⟩⟩⟩⟩ (Nat.le_refl _) (Nat.le_refl _)
def fxX7_weigh (l0 : Option Nat) (l1 : Option Nat) (l2 : Option Nat) (h : am_H) : Option (Unit × am_H) := am_gd (am_ob h l1 2) (am_gd (am_ob h l0 7) (am_lt (am_si h l0 3 (am_gi h l1 1)) (fun h1 => am_lt (0 : Int32) (fun x2 => fxX7_weigh_b10 am_F l0 l1 l2 x2 h1))))
set_option maxRecDepth 100000 in
theorem sxX7_weigh {xs : List Int32} (l0 : Option Nat) (l1 : Option Nat) (l2 : Option Nat) (h : am_H) : am_Sm xs am_cu mX7_weigh 4 0 0 0 [some (am_R l0), some (am_R l1), some (am_R l2), none, none, none] [] h (fxX7_weigh l0 l1 l2 h) := by
  unfold fxX7_weigh
  refine am_aload_n dX7_weigh_0 rfl ?_
  refine am_aload_n dX7_weigh_1 rfl ?_
  refine am_getI dX7_weigh_2 fk_RX7_25 rfl ?_
  refine am_putI dX7_weigh_5 fk_RX7_21 ⟨_, rfl, Or.inl rfl⟩ rfl (fun h1 => ?_)
  refine am_iconst (v := 0) dX7_weigh_8 (by decide) ?_
  refine am_istore_n (LL := fun y9 => [some (am_R l0), some (am_R l1), some (am_R l2), some (am_I y9), none, none]) dX7_weigh_9 (by decide) (fun _ => rfl) (fun x2 => ?_)
  exact am_weak (sxX7_weigh_b10 am_F l0 l1 l2 x2 h1) ⟨rfl, ⟨rfl, ⟨rfl, ⟨rfl, trivial⟩⟩⟩⟩ (Nat.le_refl _) (Nat.le_refl _)
theorem txX7_weigh {xs : List Int32} (l0 : Option Nat) (l1 : Option Nat) (l2 : Option Nat) (h : am_H) (a : Unit) (h2 : am_H) (e : fxX7_weigh l0 l1 l2 h = some (a, h2)) : am_Ct xs mX7_weigh 4 0 0 [am_R l0, am_R l1, am_R l2] h (fun v h3 => v = am_cu a ∧ h3 = h2) := am_meth okX7_weigh (Nat.le_of_ble_eq_true rfl) rfl (sxX7_weigh l0 l1 l2 h) e
theorem dX7_bestWith_0 : am_at cX7_bestWith 0 (.aload_n 0) 1 1 := by decide +kernel
theorem dX7_bestWith_1 : am_at cX7_bestWith 1 (.getfield 15) 3 4 := by decide +kernel
theorem dX7_bestWith_4 : am_at cX7_bestWith 4 (.iload_n 2) 1 5 := by decide +kernel
theorem dX7_bestWith_5 : am_at cX7_bestWith 5 (.iaload) 1 6 := by decide +kernel
theorem dX7_bestWith_6 : am_at cX7_bestWith 6 (.istore_n 3) 1 7 := by decide +kernel
theorem dX7_bestWith_7 : am_at cX7_bestWith 7 (.iconst 0) 1 8 := by decide +kernel
theorem dX7_bestWith_8 : am_at cX7_bestWith 8 (.istore 4) 2 10 := by decide +kernel
theorem dX7_bestWith_10 : am_at cX7_bestWith 10 (.iload 4) 2 12 := by decide +kernel
theorem dX7_bestWith_12 : am_at cX7_bestWith 12 (.iload_n 1) 1 13 := by decide +kernel
theorem dX7_bestWith_13 : am_at cX7_bestWith 13 (.if_icmp .ge 60) 3 16 := by decide +kernel
theorem dX7_bestWith_16 : am_at cX7_bestWith 16 (.aload_n 0) 1 17 := by decide +kernel
theorem dX7_bestWith_17 : am_at cX7_bestWith 17 (.getfield 9) 3 20 := by decide +kernel
theorem dX7_bestWith_20 : am_at cX7_bestWith 20 (.iload_n 1) 1 21 := by decide +kernel
theorem dX7_bestWith_21 : am_at cX7_bestWith 21 (.bipush 10) 2 23 := by decide +kernel
theorem dX7_bestWith_23 : am_at cX7_bestWith 23 (.imul) 1 24 := by decide +kernel
theorem dX7_bestWith_24 : am_at cX7_bestWith 24 (.iload 4) 2 26 := by decide +kernel
theorem dX7_bestWith_26 : am_at cX7_bestWith 26 (.iadd) 1 27 := by decide +kernel
theorem dX7_bestWith_27 : am_at cX7_bestWith 27 (.iaload) 1 28 := by decide +kernel
theorem dX7_bestWith_28 : am_at cX7_bestWith 28 (.istore 5) 2 30 := by decide +kernel
theorem dX7_bestWith_30 : am_at cX7_bestWith 30 (.iload_n 2) 1 31 := by decide +kernel
theorem dX7_bestWith_31 : am_at cX7_bestWith 31 (.iload 4) 2 33 := by decide +kernel
theorem dX7_bestWith_33 : am_at cX7_bestWith 33 (.ishr) 1 34 := by decide +kernel
theorem dX7_bestWith_34 : am_at cX7_bestWith 34 (.iconst 1) 1 35 := by decide +kernel
theorem dX7_bestWith_35 : am_at cX7_bestWith 35 (.iand) 1 36 := by decide +kernel
theorem dX7_bestWith_36 : am_at cX7_bestWith 36 (.iconst 1) 1 37 := by decide +kernel
theorem dX7_bestWith_37 : am_at cX7_bestWith 37 (.if_icmp .ne 30) 3 40 := by decide +kernel
theorem dX7_bestWith_40 : am_at cX7_bestWith 40 (.iload 5) 2 42 := by decide +kernel
theorem dX7_bestWith_42 : am_at cX7_bestWith 42 (.iconst (-1)) 1 43 := by decide +kernel
theorem dX7_bestWith_43 : am_at cX7_bestWith 43 (.if_icmp .eq 24) 3 46 := by decide +kernel
theorem dX7_bestWith_46 : am_at cX7_bestWith 46 (.iload_n 3) 1 47 := by decide +kernel
theorem dX7_bestWith_47 : am_at cX7_bestWith 47 (.iload 5) 2 49 := by decide +kernel
theorem dX7_bestWith_49 : am_at cX7_bestWith 49 (.aload_n 0) 1 50 := by decide +kernel
theorem dX7_bestWith_50 : am_at cX7_bestWith 50 (.getfield 15) 3 53 := by decide +kernel
theorem dX7_bestWith_53 : am_at cX7_bestWith 53 (.iload_n 2) 1 54 := by decide +kernel
theorem dX7_bestWith_54 : am_at cX7_bestWith 54 (.iconst 1) 1 55 := by decide +kernel
theorem dX7_bestWith_55 : am_at cX7_bestWith 55 (.iload 4) 2 57 := by decide +kernel
theorem dX7_bestWith_57 : am_at cX7_bestWith 57 (.ishl) 1 58 := by decide +kernel
theorem dX7_bestWith_58 : am_at cX7_bestWith 58 (.iconst (-1)) 1 59 := by decide +kernel
theorem dX7_bestWith_59 : am_at cX7_bestWith 59 (.ixor) 1 60 := by decide +kernel
theorem dX7_bestWith_60 : am_at cX7_bestWith 60 (.iand) 1 61 := by decide +kernel
theorem dX7_bestWith_61 : am_at cX7_bestWith 61 (.iaload) 1 62 := by decide +kernel
theorem dX7_bestWith_62 : am_at cX7_bestWith 62 (.iadd) 1 63 := by decide +kernel
theorem dX7_bestWith_63 : am_at cX7_bestWith 63 (.invokestatic 38) 3 66 := by decide +kernel
theorem dX7_bestWith_66 : am_at cX7_bestWith 66 (.istore_n 3) 1 67 := by decide +kernel
theorem dX7_bestWith_67 : am_at cX7_bestWith 67 (.iinc 4 1) 3 70 := by decide +kernel
theorem dX7_bestWith_70 : am_at cX7_bestWith 70 (.goto (-60)) 3 73 := by decide +kernel
theorem dX7_bestWith_73 : am_at cX7_bestWith 73 (.iload_n 3) 1 74 := by decide +kernel
theorem dX7_bestWith_74 : am_at cX7_bestWith 74 (.ireturn) 1 75 := by decide +kernel
def fxX7_bestWith_b67 (k10 : Option Nat → Int32 → Int32 → Int32 → Int32 → am_H → Option (Int32 × am_H)) (l0 : Option Nat) (l1 : Int32) (l2 : Int32) (l3 : Int32) (l4 : Int32) (h : am_H) : Option (Int32 × am_H) := am_lt (l4 + 1) (fun x8 => k10 l0 l1 l2 l3 x8 h)
set_option maxRecDepth 100000 in
theorem sxX7_bestWith_b67 {xs : List Int32} (k10 : Option Nat → Int32 → Int32 → Int32 → Int32 → am_H → Option (Int32 × am_H)) (hk10 : ∀ (l0 : Option Nat) (l1 : Int32) (l2 : Int32) (l3 : Int32) (l4 : Int32) (h : am_H), am_Sm xs am_ci mX7_bestWith 1 0 0 10 [some (am_R l0), some (am_I l1), some (am_I l2), some (am_I l3), some (am_I l4), none] [] h (k10 l0 l1 l2 l3 l4 h)) (l0 : Option Nat) (l1 : Int32) (l2 : Int32) (l3 : Int32) (l4 : Int32) (h : am_H) : am_Sm xs am_ci mX7_bestWith 1 0 0 67 [some (am_R l0), some (am_I l1), some (am_I l2), some (am_I l3), some (am_I l4), none] [] h (fxX7_bestWith_b67 k10 l0 l1 l2 l3 l4 h) := by
  unfold fxX7_bestWith_b67
  refine am_iinc (v := 1) (LL := fun y9 => [some (am_R l0), some (am_I l1), some (am_I l2), some (am_I l3), some (am_I y9), none]) dX7_bestWith_67 (by decide) rfl (by decide) (fun _ => rfl) (fun x8 => ?_)
  refine am_goto (tgt := 10) dX7_bestWith_70 (by decide) ?_
  exact am_weak (hk10 l0 l1 l2 l3 x8 h) ⟨rfl, ⟨rfl, ⟨rfl, ⟨rfl, ⟨rfl, trivial⟩⟩⟩⟩⟩ (Nat.le_refl _) (Nat.le_refl _)
def fxX7_bestWith_b10 : Nat → Option Nat → Int32 → Int32 → Int32 → Int32 → am_H → Option (Int32 × am_H)
  | 0, _, _, _, _, _, _ => none
  | n + 1, l0, l1, l2, l3, l4, h => if l1 ≤ l4 then (some (l3, h)) else (am_gd (am_ob h l0 7) (am_gd (am_ix h (am_gr h l0 0) 0 ((l1 * (10 : Int32)) + l4)) (am_lt (am_gi h (am_gr h l0 0) ((l1 * (10 : Int32)) + l4).toNatClampNeg) (fun x3 => if ((l2 >>> (l4 &&& 31)) &&& (1 : Int32)) = (1 : Int32) then (if x3 = (-1 : Int32) then (fxX7_bestWith_b67 (fxX7_bestWith_b10 n) l0 l1 l2 l3 l4 h) else (am_gd (am_ob h l0 7) (am_gd (am_ix h (am_gr h l0 1) 0 (l2 &&& (((1 : Int32) <<< (l4 &&& 31)) ^^^ (-1 : Int32)))) (am_lt (am_mmax l3 (x3 + (am_gi h (am_gr h l0 1) (l2 &&& (((1 : Int32) <<< (l4 &&& 31)) ^^^ (-1 : Int32))).toNatClampNeg))) (fun x4 => fxX7_bestWith_b67 (fxX7_bestWith_b10 n) l0 l1 l2 x4 l4 h))))) else (fxX7_bestWith_b67 (fxX7_bestWith_b10 n) l0 l1 l2 l3 l4 h)))))
set_option maxRecDepth 100000 in
theorem sxX7_bestWith_b10 {xs : List Int32} : ∀ (n : Nat) (l0 : Option Nat) (l1 : Int32) (l2 : Int32) (l3 : Int32) (l4 : Int32) (h : am_H), am_Sm xs am_ci mX7_bestWith 1 0 0 10 [some (am_R l0), some (am_I l1), some (am_I l2), some (am_I l3), some (am_I l4), none] [] h (fxX7_bestWith_b10 n l0 l1 l2 l3 l4 h) := by
  intro n
  induction n with
  | zero => intros; exact am_none
  | succ n ih =>
    intro l0 l1 l2 l3 l4 h
    rw [fxX7_bestWith_b10]
    refine am_iload dX7_bestWith_10 rfl ?_
    refine am_iload_n dX7_bestWith_12 rfl ?_
    refine am_icmp_ge (tgt := 73) dX7_bestWith_13 (by decide) (fun c7 => ?_) (fun c7 => ?_)
    · refine am_iload_n dX7_bestWith_73 rfl ?_
      exact am_iret dX7_bestWith_74 rfl rfl
    refine am_aload_n dX7_bestWith_16 rfl ?_
    refine am_getR dX7_bestWith_17 fk_RX7_9 rfl ?_
    refine am_iload_n dX7_bestWith_20 rfl ?_
    refine am_bipush (v := 10) dX7_bestWith_21 (by decide) ?_
    refine am_imul dX7_bestWith_23 ?_
    refine am_iload dX7_bestWith_24 rfl ?_
    refine am_iadd dX7_bestWith_26 ?_
    refine am_iald dX7_bestWith_27 ?_
    refine am_istore (LL := fun y9 => [some (am_R l0), some (am_I l1), some (am_I l2), some (am_I l3), some (am_I l4), some (am_I y9)]) dX7_bestWith_28 (by decide) (fun _ => rfl) (fun x3 => ?_)
    refine am_iload_n dX7_bestWith_30 rfl ?_
    refine am_iload dX7_bestWith_31 rfl ?_
    refine am_ishr dX7_bestWith_33 ?_
    refine am_iconst (v := 1) dX7_bestWith_34 (by decide) ?_
    refine am_iand dX7_bestWith_35 ?_
    refine am_iconst (v := 1) dX7_bestWith_36 (by decide) ?_
    refine am_icmp_ne (tgt := 67) dX7_bestWith_37 (by decide) (fun c6 => ?_) (fun c6 => ?_)
    · exact am_weak (sxX7_bestWith_b67 (fxX7_bestWith_b10 n) ih l0 l1 l2 l3 l4 h) ⟨rfl, ⟨rfl, ⟨rfl, ⟨rfl, ⟨rfl, trivial⟩⟩⟩⟩⟩ (Nat.le_refl _) (Nat.le_refl _)
    refine am_iload dX7_bestWith_40 rfl ?_
    refine am_iconst (v := (-1)) dX7_bestWith_42 (by decide) ?_
    refine am_icmp_eq (tgt := 67) dX7_bestWith_43 (by decide) (fun c5 => ?_) (fun c5 => ?_)
    · exact am_weak (sxX7_bestWith_b67 (fxX7_bestWith_b10 n) ih l0 l1 l2 l3 l4 h) ⟨rfl, ⟨rfl, ⟨rfl, ⟨rfl, ⟨rfl, trivial⟩⟩⟩⟩⟩ (Nat.le_refl _) (Nat.le_refl _)
    refine am_iload_n dX7_bestWith_46 rfl ?_
    refine am_iload dX7_bestWith_47 rfl ?_
    refine am_aload_n dX7_bestWith_49 rfl ?_
    refine am_getR dX7_bestWith_50 fk_RX7_15 rfl ?_
    refine am_iload_n dX7_bestWith_53 rfl ?_
    refine am_iconst (v := 1) dX7_bestWith_54 (by decide) ?_
    refine am_iload dX7_bestWith_55 rfl ?_
    refine am_ishl dX7_bestWith_57 ?_
    refine am_iconst (v := (-1)) dX7_bestWith_58 (by decide) ?_
    refine am_ixor dX7_bestWith_59 ?_
    refine am_iand dX7_bestWith_60 ?_
    refine am_iald dX7_bestWith_61 ?_
    refine am_iadd dX7_bestWith_62 ?_
    refine am_mmax9 dX7_bestWith_63 wd469 wd404 wd12 wd405 (by decide) (Nat.le_of_ble_eq_true rfl) ?_
    refine am_istore_n (LL := fun y9 => [some (am_R l0), some (am_I l1), some (am_I l2), some (am_I y9), some (am_I l4), some (am_I x3)]) dX7_bestWith_66 (by decide) (fun _ => rfl) (fun x4 => ?_)
    exact am_weak (sxX7_bestWith_b67 (fxX7_bestWith_b10 n) ih l0 l1 l2 x4 l4 h) ⟨rfl, ⟨rfl, ⟨rfl, ⟨rfl, ⟨rfl, trivial⟩⟩⟩⟩⟩ (Nat.le_refl _) (Nat.le_refl _)
def fxX7_bestWith (l0 : Option Nat) (l1 : Int32) (l2 : Int32) (h : am_H) : Option (Int32 × am_H) := am_gd (am_ob h l0 7) (am_gd (am_ix h (am_gr h l0 1) 0 l2) (am_lt (am_gi h (am_gr h l0 1) l2.toNatClampNeg) (fun x1 => am_lt (0 : Int32) (fun x2 => fxX7_bestWith_b10 am_F l0 l1 l2 x1 x2 h))))
set_option maxRecDepth 100000 in
theorem sxX7_bestWith {xs : List Int32} (l0 : Option Nat) (l1 : Int32) (l2 : Int32) (h : am_H) : am_Sm xs am_ci mX7_bestWith 1 0 0 0 [some (am_R l0), some (am_I l1), some (am_I l2), none, none, none] [] h (fxX7_bestWith l0 l1 l2 h) := by
  unfold fxX7_bestWith
  refine am_aload_n dX7_bestWith_0 rfl ?_
  refine am_getR dX7_bestWith_1 fk_RX7_15 rfl ?_
  refine am_iload_n dX7_bestWith_4 rfl ?_
  refine am_iald dX7_bestWith_5 ?_
  refine am_istore_n (LL := fun y9 => [some (am_R l0), some (am_I l1), some (am_I l2), some (am_I y9), none, none]) dX7_bestWith_6 (by decide) (fun _ => rfl) (fun x1 => ?_)
  refine am_iconst (v := 0) dX7_bestWith_7 (by decide) ?_
  refine am_istore (LL := fun y9 => [some (am_R l0), some (am_I l1), some (am_I l2), some (am_I x1), some (am_I y9), none]) dX7_bestWith_8 (by decide) (fun _ => rfl) (fun x2 => ?_)
  exact am_weak (sxX7_bestWith_b10 am_F l0 l1 l2 x1 x2 h) ⟨rfl, ⟨rfl, ⟨rfl, ⟨rfl, ⟨rfl, trivial⟩⟩⟩⟩⟩ (Nat.le_refl _) (Nat.le_refl _)
theorem txX7_bestWith {xs : List Int32} (l0 : Option Nat) (l1 : Int32) (l2 : Int32) (h : am_H) (a : Int32) (h2 : am_H) (e : fxX7_bestWith l0 l1 l2 h = some (a, h2)) : am_Ct xs mX7_bestWith 1 0 0 [am_R l0, am_I l1, am_I l2] h (fun v h3 => v = am_ci a ∧ h3 = h2) := am_meth okX7_bestWith (Nat.le_of_ble_eq_true rfl) rfl (sxX7_bestWith l0 l1 l2 h) e
theorem dX7_pairUp_0 : am_at cX7_pairUp 0 (.aload_n 0) 1 1 := by decide +kernel
theorem dX7_pairUp_1 : am_at cX7_pairUp 1 (.getfield 15) 3 4 := by decide +kernel
theorem dX7_pairUp_4 : am_at cX7_pairUp 4 (.iconst 0) 1 5 := by decide +kernel
theorem dX7_pairUp_5 : am_at cX7_pairUp 5 (.iconst 0) 1 6 := by decide +kernel
theorem dX7_pairUp_6 : am_at cX7_pairUp 6 (.iastore) 1 7 := by decide +kernel
theorem dX7_pairUp_7 : am_at cX7_pairUp 7 (.iconst 0) 1 8 := by decide +kernel
theorem dX7_pairUp_8 : am_at cX7_pairUp 8 (.istore_n 1) 1 9 := by decide +kernel
theorem dX7_pairUp_9 : am_at cX7_pairUp 9 (.iload_n 1) 1 10 := by decide +kernel
theorem dX7_pairUp_10 : am_at cX7_pairUp 10 (.aload_n 0) 1 11 := by decide +kernel
theorem dX7_pairUp_11 : am_at cX7_pairUp 11 (.getfield 21) 3 14 := by decide +kernel
theorem dX7_pairUp_14 : am_at cX7_pairUp 14 (.if_icmp .ge 40) 3 17 := by decide +kernel
theorem dX7_pairUp_17 : am_at cX7_pairUp 17 (.iconst 1) 1 18 := by decide +kernel
theorem dX7_pairUp_18 : am_at cX7_pairUp 18 (.iload_n 1) 1 19 := by decide +kernel
theorem dX7_pairUp_19 : am_at cX7_pairUp 19 (.ishl) 1 20 := by decide +kernel
theorem dX7_pairUp_20 : am_at cX7_pairUp 20 (.istore_n 2) 1 21 := by decide +kernel
theorem dX7_pairUp_21 : am_at cX7_pairUp 21 (.iconst 0) 1 22 := by decide +kernel
theorem dX7_pairUp_22 : am_at cX7_pairUp 22 (.istore_n 3) 1 23 := by decide +kernel
theorem dX7_pairUp_23 : am_at cX7_pairUp 23 (.iload_n 3) 1 24 := by decide +kernel
theorem dX7_pairUp_24 : am_at cX7_pairUp 24 (.iload_n 2) 1 25 := by decide +kernel
theorem dX7_pairUp_25 : am_at cX7_pairUp 25 (.if_icmp .ge 23) 3 28 := by decide +kernel
theorem dX7_pairUp_28 : am_at cX7_pairUp 28 (.aload_n 0) 1 29 := by decide +kernel
theorem dX7_pairUp_29 : am_at cX7_pairUp 29 (.getfield 15) 3 32 := by decide +kernel
theorem dX7_pairUp_32 : am_at cX7_pairUp 32 (.iload_n 2) 1 33 := by decide +kernel
theorem dX7_pairUp_33 : am_at cX7_pairUp 33 (.iload_n 3) 1 34 := by decide +kernel
theorem dX7_pairUp_34 : am_at cX7_pairUp 34 (.ior) 1 35 := by decide +kernel
theorem dX7_pairUp_35 : am_at cX7_pairUp 35 (.aload_n 0) 1 36 := by decide +kernel
theorem dX7_pairUp_36 : am_at cX7_pairUp 36 (.iload_n 1) 1 37 := by decide +kernel
theorem dX7_pairUp_37 : am_at cX7_pairUp 37 (.iload_n 3) 1 38 := by decide +kernel
theorem dX7_pairUp_38 : am_at cX7_pairUp 38 (.invokevirtual 34) 3 41 := by decide +kernel
theorem dX7_pairUp_41 : am_at cX7_pairUp 41 (.iastore) 1 42 := by decide +kernel
theorem dX7_pairUp_42 : am_at cX7_pairUp 42 (.iinc 3 1) 3 45 := by decide +kernel
theorem dX7_pairUp_45 : am_at cX7_pairUp 45 (.goto (-22)) 3 48 := by decide +kernel
theorem dX7_pairUp_48 : am_at cX7_pairUp 48 (.iinc 1 1) 3 51 := by decide +kernel
theorem dX7_pairUp_51 : am_at cX7_pairUp 51 (.goto (-42)) 3 54 := by decide +kernel
theorem dX7_pairUp_54 : am_at cX7_pairUp 54 (.return_) 1 55 := by decide +kernel
def fxX7_pairUp_b23 (k9 : Option Nat → Int32 → am_H → Option (Unit × am_H)) : Nat → Option Nat → Int32 → Int32 → Int32 → am_H → Option (Unit × am_H)
  | 0, _, _, _, _, _ => none
  | n + 1, l0, l1, l2, l3, h => if l2 ≤ l3 then (am_lt (l1 + 1) (fun x6 => k9 l0 x6 h)) else (am_gd (am_ob h l0 7) (am_gd (am_ob h l0 7) (am_bd (fxX7_bestWith l0 l1 l3 h) (fun r7 h8 => am_gd (am_ix h8 (am_gr h l0 1) 0 (l2 ||| l3)) (am_lt (am_si h8 (am_gr h l0 1) (l2 ||| l3).toNatClampNeg r7) (fun h9 => am_lt (l3 + 1) (fun x10 => fxX7_pairUp_b23 k9 n l0 l1 l2 x10 h9)))))))
set_option maxRecDepth 100000 in
theorem sxX7_pairUp_b23 {xs : List Int32} (k9 : Option Nat → Int32 → am_H → Option (Unit × am_H)) (hk9 : ∀ (l0 : Option Nat) (l1 : Int32) (h : am_H), am_Sm xs am_cu mX7_pairUp 2 0 0 9 [some (am_R l0), some (am_I l1), none, none] [] h (k9 l0 l1 h)) : ∀ (n : Nat) (l0 : Option Nat) (l1 : Int32) (l2 : Int32) (l3 : Int32) (h : am_H), am_Sm xs am_cu mX7_pairUp 2 0 0 23 [some (am_R l0), some (am_I l1), some (am_I l2), some (am_I l3)] [] h (fxX7_pairUp_b23 k9 n l0 l1 l2 l3 h) := by
  intro n
  induction n with
  | zero => intros; exact am_none
  | succ n ih =>
    intro l0 l1 l2 l3 h
    rw [fxX7_pairUp_b23]
    refine am_iload_n dX7_pairUp_23 rfl ?_
    refine am_iload_n dX7_pairUp_24 rfl ?_
    refine am_icmp_ge (tgt := 48) dX7_pairUp_25 (by decide) (fun c11 => ?_) (fun c11 => ?_)
    · refine am_iinc (v := 1) (LL := fun y9 => [some (am_R l0), some (am_I y9), some (am_I l2), some (am_I l3)]) dX7_pairUp_48 (by decide) rfl (by decide) (fun _ => rfl) (fun x6 => ?_)
      refine am_goto (tgt := 9) dX7_pairUp_51 (by decide) ?_
      exact am_weak (hk9 l0 x6 h) ⟨rfl, ⟨rfl, trivial⟩⟩ (Nat.le_refl _) (Nat.le_refl _)
    refine am_aload_n dX7_pairUp_28 rfl ?_
    refine am_getR dX7_pairUp_29 fk_RX7_15 rfl ?_
    refine am_iload_n dX7_pairUp_32 rfl ?_
    refine am_iload_n dX7_pairUp_33 rfl ?_
    refine am_ior dX7_pairUp_34 ?_
    refine am_aload_n dX7_pairUp_35 rfl ?_
    refine am_iload_n dX7_pairUp_36 rfl ?_
    refine am_iload_n dX7_pairUp_37 rfl ?_
    refine am_callV (cvj := am_ci) (mtj := mX7_bestWith) (dj := 1) (nj := 2) (rcj := 0) (rsj := 0) (rc' := 0) (rs' := 0) (ci := 7) (st' := fun a9 => (am_I a9 :: [am_I (l2 ||| l3), am_R (am_gr h l0 1)])) ⟨_, rfl, rfl⟩ [am_I l1, am_I l3] [am_I (l2 ||| l3), am_R (am_gr h l0 1)] dX7_pairUp_38 okX7_bestWith lk_RX7_34 (fun zA zH zE => txX7_bestWith l0 l1 l3 h zA zH zE) rfl (fun _ => rfl) (by decide) rfl (Nat.le_of_ble_eq_true rfl) (by decide) (by decide) (fun r7 h8 => ?_)
    refine am_iast dX7_pairUp_41 (fun h9 => ?_)
    refine am_iinc (v := 1) (LL := fun y9 => [some (am_R l0), some (am_I l1), some (am_I l2), some (am_I y9)]) dX7_pairUp_42 (by decide) rfl (by decide) (fun _ => rfl) (fun x10 => ?_)
    refine am_goto (tgt := 23) dX7_pairUp_45 (by decide) ?_
    exact am_weak (ih l0 l1 l2 x10 h9) ⟨rfl, ⟨rfl, ⟨rfl, ⟨rfl, trivial⟩⟩⟩⟩ (Nat.le_refl _) (Nat.le_refl _)
def fxX7_pairUp_b9 : Nat → Option Nat → Int32 → am_H → Option (Unit × am_H)
  | 0, _, _, _ => none
  | n + 1, l0, l1, h => am_gd (am_ob h l0 7) (if (am_gi h l0 3) ≤ l1 then (some ((), h)) else (am_lt ((1 : Int32) <<< (l1 &&& 31)) (fun x3 => am_lt (0 : Int32) (fun x4 => fxX7_pairUp_b23 (fxX7_pairUp_b9 n) am_F l0 l1 x3 x4 h))))
set_option maxRecDepth 100000 in
theorem sxX7_pairUp_b9 {xs : List Int32} : ∀ (n : Nat) (l0 : Option Nat) (l1 : Int32) (h : am_H), am_Sm xs am_cu mX7_pairUp 2 0 0 9 [some (am_R l0), some (am_I l1), none, none] [] h (fxX7_pairUp_b9 n l0 l1 h) := by
  intro n
  induction n with
  | zero => intros; exact am_none
  | succ n ih =>
    intro l0 l1 h
    rw [fxX7_pairUp_b9]
    refine am_iload_n dX7_pairUp_9 rfl ?_
    refine am_aload_n dX7_pairUp_10 rfl ?_
    refine am_getI dX7_pairUp_11 fk_RX7_21 rfl ?_
    refine am_icmp_ge (tgt := 54) dX7_pairUp_14 (by decide) (fun c5 => ?_) (fun c5 => ?_)
    · exact am_vret dX7_pairUp_54 rfl rfl
    refine am_iconst (v := 1) dX7_pairUp_17 (by decide) ?_
    refine am_iload_n dX7_pairUp_18 rfl ?_
    refine am_ishl dX7_pairUp_19 ?_
    refine am_istore_n (LL := fun y9 => [some (am_R l0), some (am_I l1), some (am_I y9), none]) dX7_pairUp_20 (by decide) (fun _ => rfl) (fun x3 => ?_)
    refine am_iconst (v := 0) dX7_pairUp_21 (by decide) ?_
    refine am_istore_n (LL := fun y9 => [some (am_R l0), some (am_I l1), some (am_I x3), some (am_I y9)]) dX7_pairUp_22 (by decide) (fun _ => rfl) (fun x4 => ?_)
    exact am_weak (sxX7_pairUp_b23 (fxX7_pairUp_b9 n) ih am_F l0 l1 x3 x4 h) ⟨rfl, ⟨rfl, ⟨rfl, ⟨rfl, trivial⟩⟩⟩⟩ (Nat.le_refl _) (Nat.le_refl _)
def fxX7_pairUp (l0 : Option Nat) (h : am_H) : Option (Unit × am_H) := am_gd (am_ob h l0 7) (am_gd (am_ix h (am_gr h l0 1) 0 (0 : Int32)) (am_lt (am_si h (am_gr h l0 1) (0 : Int32).toNatClampNeg (0 : Int32)) (fun h1 => am_lt (0 : Int32) (fun x2 => fxX7_pairUp_b9 am_F l0 x2 h1))))
set_option maxRecDepth 100000 in
theorem sxX7_pairUp {xs : List Int32} (l0 : Option Nat) (h : am_H) : am_Sm xs am_cu mX7_pairUp 2 0 0 0 [some (am_R l0), none, none, none] [] h (fxX7_pairUp l0 h) := by
  unfold fxX7_pairUp
  refine am_aload_n dX7_pairUp_0 rfl ?_
  refine am_getR dX7_pairUp_1 fk_RX7_15 rfl ?_
  refine am_iconst (v := 0) dX7_pairUp_4 (by decide) ?_
  refine am_iconst (v := 0) dX7_pairUp_5 (by decide) ?_
  refine am_iast dX7_pairUp_6 (fun h1 => ?_)
  refine am_iconst (v := 0) dX7_pairUp_7 (by decide) ?_
  refine am_istore_n (LL := fun y9 => [some (am_R l0), some (am_I y9), none, none]) dX7_pairUp_8 (by decide) (fun _ => rfl) (fun x2 => ?_)
  exact am_weak (sxX7_pairUp_b9 am_F l0 x2 h1) ⟨rfl, ⟨rfl, trivial⟩⟩ (Nat.le_refl _) (Nat.le_refl _)
theorem txX7_pairUp {xs : List Int32} (l0 : Option Nat) (h : am_H) (a : Unit) (h2 : am_H) (e : fxX7_pairUp l0 h = some (a, h2)) : am_Ct xs mX7_pairUp 2 0 0 [am_R l0] h (fun v h3 => v = am_cu a ∧ h3 = h2) := am_meth okX7_pairUp (Nat.le_of_ble_eq_true rfl) rfl (sxX7_pairUp l0 h) e
theorem dX7_valueOfSet_0 : am_at cX7_valueOfSet 0 (.iload_n 1) 1 1 := by decide +kernel
theorem dX7_valueOfSet_1 : am_at cX7_valueOfSet 1 (.iconst 0) 1 2 := by decide +kernel
theorem dX7_valueOfSet_2 : am_at cX7_valueOfSet 2 (.aload_n 0) 1 3 := by decide +kernel
theorem dX7_valueOfSet_3 : am_at cX7_valueOfSet 3 (.getfield 15) 3 6 := by decide +kernel
theorem dX7_valueOfSet_6 : am_at cX7_valueOfSet 6 (.arraylength) 1 7 := by decide +kernel
theorem dX7_valueOfSet_7 : am_at cX7_valueOfSet 7 (.iconst 1) 1 8 := by decide +kernel
theorem dX7_valueOfSet_8 : am_at cX7_valueOfSet 8 (.isub) 1 9 := by decide +kernel
theorem dX7_valueOfSet_9 : am_at cX7_valueOfSet 9 (.invokestatic 43) 3 12 := by decide +kernel
theorem dX7_valueOfSet_12 : am_at cX7_valueOfSet 12 (.ifCond .eq 12) 3 15 := by decide +kernel
theorem dX7_valueOfSet_15 : am_at cX7_valueOfSet 15 (.aload_n 0) 1 16 := by decide +kernel
theorem dX7_valueOfSet_16 : am_at cX7_valueOfSet 16 (.getfield 15) 3 19 := by decide +kernel
theorem dX7_valueOfSet_19 : am_at cX7_valueOfSet 19 (.iload_n 1) 1 20 := by decide +kernel
theorem dX7_valueOfSet_20 : am_at cX7_valueOfSet 20 (.iaload) 1 21 := by decide +kernel
theorem dX7_valueOfSet_21 : am_at cX7_valueOfSet 21 (.goto 4) 3 24 := by decide +kernel
theorem dX7_valueOfSet_24 : am_at cX7_valueOfSet 24 (.iconst 0) 1 25 := by decide +kernel
theorem dX7_valueOfSet_25 : am_at cX7_valueOfSet 25 (.ireturn) 1 26 := by decide +kernel
def fxX7_valueOfSet (l0 : Option Nat) (l1 : Int32) (h : am_H) : Option (Int32 × am_H) := am_gd (am_ob h l0 7) (am_gd (am_ar h (am_gr h l0 1) 0) (am_bd (fxX9_within l1 (0 : Int32) ((Int32.ofNat (am_ln h (am_gr h l0 1))) - (1 : Int32)) h) (fun r1 h2 => if r1 = 0 then (some ((0 : Int32), h2)) else (am_gd (am_ob h2 l0 7) (am_gd (am_ix h2 (am_gr h2 l0 1) 0 l1) (some ((am_gi h2 (am_gr h2 l0 1) l1.toNatClampNeg), h2)))))))
set_option maxRecDepth 100000 in
theorem sxX7_valueOfSet {xs : List Int32} (l0 : Option Nat) (l1 : Int32) (h : am_H) : am_Sm xs am_ci mX7_valueOfSet 1 0 0 0 [some (am_R l0), some (am_I l1)] [] h (fxX7_valueOfSet l0 l1 h) := by
  unfold fxX7_valueOfSet
  refine am_iload_n dX7_valueOfSet_0 rfl ?_
  refine am_iconst (v := 0) dX7_valueOfSet_1 (by decide) ?_
  refine am_aload_n dX7_valueOfSet_2 rfl ?_
  refine am_getR dX7_valueOfSet_3 fk_RX7_15 rfl ?_
  refine am_alen (t := 0) dX7_valueOfSet_6 (by decide) ?_
  refine am_iconst (v := 1) dX7_valueOfSet_7 (by decide) ?_
  refine am_isub dX7_valueOfSet_8 ?_
  refine am_callS (cvj := am_ci) (mtj := mX9_within) (dj := 0) (nj := 3) (rcj := 0) (rsj := 0) (rc' := 0) (rs' := 0) (st' := fun a9 => (am_I a9 :: [])) [am_I l1, am_I (0 : Int32), am_I ((Int32.ofNat (am_ln h (am_gr h l0 1))) - (1 : Int32))] [] dX7_valueOfSet_9 okX9_within lk_RX7_43 (fun zA zH zE => txX9_within l1 (0 : Int32) ((Int32.ofNat (am_ln h (am_gr h l0 1))) - (1 : Int32)) h zA zH zE) rfl (fun _ => rfl) (by decide) rfl (Nat.le_of_ble_eq_true rfl) (by decide) (by decide) (fun r1 h2 => ?_)
  refine am_if_eq (tgt := 24) dX7_valueOfSet_12 (by decide) (fun c3 => ?_) (fun c3 => ?_)
  · refine am_iconst (v := 0) dX7_valueOfSet_24 (by decide) ?_
    exact am_iret dX7_valueOfSet_25 rfl rfl
  refine am_aload_n dX7_valueOfSet_15 rfl ?_
  refine am_getR dX7_valueOfSet_16 fk_RX7_15 rfl ?_
  refine am_iload_n dX7_valueOfSet_19 rfl ?_
  refine am_iald dX7_valueOfSet_20 ?_
  refine am_goto (tgt := 25) dX7_valueOfSet_21 (by decide) ?_
  exact am_iret dX7_valueOfSet_25 rfl rfl
theorem txX7_valueOfSet {xs : List Int32} (l0 : Option Nat) (l1 : Int32) (h : am_H) (a : Int32) (h2 : am_H) (e : fxX7_valueOfSet l0 l1 h = some (a, h2)) : am_Ct xs mX7_valueOfSet 1 0 0 [am_R l0, am_I l1] h (fun v h3 => v = am_ci a ∧ h3 = h2) := am_meth okX7_valueOfSet (Nat.le_of_ble_eq_true rfl) rfl (sxX7_valueOfSet l0 l1 h) e
theorem dX7_leastMate_0 : am_at cX7_leastMate 0 (.iload_n 1) 1 1 := by decide +kernel
theorem dX7_leastMate_1 : am_at cX7_leastMate 1 (.iconst 1) 1 2 := by decide +kernel
theorem dX7_leastMate_2 : am_at cX7_leastMate 2 (.iadd) 1 3 := by decide +kernel
theorem dX7_leastMate_3 : am_at cX7_leastMate 3 (.istore_n 3) 1 4 := by decide +kernel
theorem dX7_leastMate_4 : am_at cX7_leastMate 4 (.iload_n 3) 1 5 := by decide +kernel
theorem dX7_leastMate_5 : am_at cX7_leastMate 5 (.aload_n 0) 1 6 := by decide +kernel
theorem dX7_leastMate_6 : am_at cX7_leastMate 6 (.getfield 21) 3 9 := by decide +kernel
theorem dX7_leastMate_9 : am_at cX7_leastMate 9 (.if_icmp .ge 73) 3 12 := by decide +kernel
theorem dX7_leastMate_12 : am_at cX7_leastMate 12 (.aload_n 0) 1 13 := by decide +kernel
theorem dX7_leastMate_13 : am_at cX7_leastMate 13 (.getfield 9) 3 16 := by decide +kernel
theorem dX7_leastMate_16 : am_at cX7_leastMate 16 (.iload_n 1) 1 17 := by decide +kernel
theorem dX7_leastMate_17 : am_at cX7_leastMate 17 (.bipush 10) 2 19 := by decide +kernel
theorem dX7_leastMate_19 : am_at cX7_leastMate 19 (.imul) 1 20 := by decide +kernel
theorem dX7_leastMate_20 : am_at cX7_leastMate 20 (.iload_n 3) 1 21 := by decide +kernel
theorem dX7_leastMate_21 : am_at cX7_leastMate 21 (.iadd) 1 22 := by decide +kernel
theorem dX7_leastMate_22 : am_at cX7_leastMate 22 (.iaload) 1 23 := by decide +kernel
theorem dX7_leastMate_23 : am_at cX7_leastMate 23 (.istore 4) 2 25 := by decide +kernel
theorem dX7_leastMate_25 : am_at cX7_leastMate 25 (.iload_n 2) 1 26 := by decide +kernel
theorem dX7_leastMate_26 : am_at cX7_leastMate 26 (.iload_n 3) 1 27 := by decide +kernel
theorem dX7_leastMate_27 : am_at cX7_leastMate 27 (.ishr) 1 28 := by decide +kernel
theorem dX7_leastMate_28 : am_at cX7_leastMate 28 (.iconst 1) 1 29 := by decide +kernel
theorem dX7_leastMate_29 : am_at cX7_leastMate 29 (.iand) 1 30 := by decide +kernel
theorem dX7_leastMate_30 : am_at cX7_leastMate 30 (.iconst 1) 1 31 := by decide +kernel
theorem dX7_leastMate_31 : am_at cX7_leastMate 31 (.if_icmp .ne 45) 3 34 := by decide +kernel
theorem dX7_leastMate_34 : am_at cX7_leastMate 34 (.iload 4) 2 36 := by decide +kernel
theorem dX7_leastMate_36 : am_at cX7_leastMate 36 (.iconst (-1)) 1 37 := by decide +kernel
theorem dX7_leastMate_37 : am_at cX7_leastMate 37 (.if_icmp .eq 39) 3 40 := by decide +kernel
theorem dX7_leastMate_40 : am_at cX7_leastMate 40 (.iload_n 2) 1 41 := by decide +kernel
theorem dX7_leastMate_41 : am_at cX7_leastMate 41 (.iconst 1) 1 42 := by decide +kernel
theorem dX7_leastMate_42 : am_at cX7_leastMate 42 (.iload_n 1) 1 43 := by decide +kernel
theorem dX7_leastMate_43 : am_at cX7_leastMate 43 (.ishl) 1 44 := by decide +kernel
theorem dX7_leastMate_44 : am_at cX7_leastMate 44 (.iconst (-1)) 1 45 := by decide +kernel
theorem dX7_leastMate_45 : am_at cX7_leastMate 45 (.ixor) 1 46 := by decide +kernel
theorem dX7_leastMate_46 : am_at cX7_leastMate 46 (.iand) 1 47 := by decide +kernel
theorem dX7_leastMate_47 : am_at cX7_leastMate 47 (.iconst 1) 1 48 := by decide +kernel
theorem dX7_leastMate_48 : am_at cX7_leastMate 48 (.iload_n 3) 1 49 := by decide +kernel
theorem dX7_leastMate_49 : am_at cX7_leastMate 49 (.ishl) 1 50 := by decide +kernel
theorem dX7_leastMate_50 : am_at cX7_leastMate 50 (.iconst (-1)) 1 51 := by decide +kernel
theorem dX7_leastMate_51 : am_at cX7_leastMate 51 (.ixor) 1 52 := by decide +kernel
theorem dX7_leastMate_52 : am_at cX7_leastMate 52 (.iand) 1 53 := by decide +kernel
theorem dX7_leastMate_53 : am_at cX7_leastMate 53 (.istore 5) 2 55 := by decide +kernel
theorem dX7_leastMate_55 : am_at cX7_leastMate 55 (.iload 4) 2 57 := by decide +kernel
theorem dX7_leastMate_57 : am_at cX7_leastMate 57 (.aload_n 0) 1 58 := by decide +kernel
theorem dX7_leastMate_58 : am_at cX7_leastMate 58 (.getfield 15) 3 61 := by decide +kernel
theorem dX7_leastMate_61 : am_at cX7_leastMate 61 (.iload 5) 2 63 := by decide +kernel
theorem dX7_leastMate_63 : am_at cX7_leastMate 63 (.iaload) 1 64 := by decide +kernel
theorem dX7_leastMate_64 : am_at cX7_leastMate 64 (.iadd) 1 65 := by decide +kernel
theorem dX7_leastMate_65 : am_at cX7_leastMate 65 (.aload_n 0) 1 66 := by decide +kernel
theorem dX7_leastMate_66 : am_at cX7_leastMate 66 (.getfield 15) 3 69 := by decide +kernel
theorem dX7_leastMate_69 : am_at cX7_leastMate 69 (.iload_n 2) 1 70 := by decide +kernel
theorem dX7_leastMate_70 : am_at cX7_leastMate 70 (.iaload) 1 71 := by decide +kernel
theorem dX7_leastMate_71 : am_at cX7_leastMate 71 (.if_icmp .ne 5) 3 74 := by decide +kernel
theorem dX7_leastMate_74 : am_at cX7_leastMate 74 (.iload_n 3) 1 75 := by decide +kernel
theorem dX7_leastMate_75 : am_at cX7_leastMate 75 (.ireturn) 1 76 := by decide +kernel
theorem dX7_leastMate_76 : am_at cX7_leastMate 76 (.iinc 3 1) 3 79 := by decide +kernel
theorem dX7_leastMate_79 : am_at cX7_leastMate 79 (.goto (-75)) 3 82 := by decide +kernel
theorem dX7_leastMate_82 : am_at cX7_leastMate 82 (.iconst (-1)) 1 83 := by decide +kernel
theorem dX7_leastMate_83 : am_at cX7_leastMate 83 (.ireturn) 1 84 := by decide +kernel
def fxX7_leastMate_b76 (k4 : Option Nat → Int32 → Int32 → Int32 → am_H → Option (Int32 × am_H)) (l0 : Option Nat) (l1 : Int32) (l2 : Int32) (l3 : Int32) (h : am_H) : Option (Int32 × am_H) := am_lt (l3 + 1) (fun x8 => k4 l0 l1 l2 x8 h)
set_option maxRecDepth 100000 in
theorem sxX7_leastMate_b76 {xs : List Int32} (k4 : Option Nat → Int32 → Int32 → Int32 → am_H → Option (Int32 × am_H)) (hk4 : ∀ (l0 : Option Nat) (l1 : Int32) (l2 : Int32) (l3 : Int32) (h : am_H), am_Sm xs am_ci mX7_leastMate 0 0 0 4 [some (am_R l0), some (am_I l1), some (am_I l2), some (am_I l3), none, none] [] h (k4 l0 l1 l2 l3 h)) (l0 : Option Nat) (l1 : Int32) (l2 : Int32) (l3 : Int32) (h : am_H) : am_Sm xs am_ci mX7_leastMate 0 0 0 76 [some (am_R l0), some (am_I l1), some (am_I l2), some (am_I l3), none, none] [] h (fxX7_leastMate_b76 k4 l0 l1 l2 l3 h) := by
  unfold fxX7_leastMate_b76
  refine am_iinc (v := 1) (LL := fun y9 => [some (am_R l0), some (am_I l1), some (am_I l2), some (am_I y9), none, none]) dX7_leastMate_76 (by decide) rfl (by decide) (fun _ => rfl) (fun x8 => ?_)
  refine am_goto (tgt := 4) dX7_leastMate_79 (by decide) ?_
  exact am_weak (hk4 l0 l1 l2 x8 h) ⟨rfl, ⟨rfl, ⟨rfl, ⟨rfl, trivial⟩⟩⟩⟩ (Nat.le_refl _) (Nat.le_refl _)
def fxX7_leastMate_b4 : Nat → Option Nat → Int32 → Int32 → Int32 → am_H → Option (Int32 × am_H)
  | 0, _, _, _, _, _ => none
  | n + 1, l0, l1, l2, l3, h => am_gd (am_ob h l0 7) (if (am_gi h l0 3) ≤ l3 then (some ((-1 : Int32), h)) else (am_gd (am_ob h l0 7) (am_gd (am_ix h (am_gr h l0 0) 0 ((l1 * (10 : Int32)) + l3)) (am_lt (am_gi h (am_gr h l0 0) ((l1 * (10 : Int32)) + l3).toNatClampNeg) (fun x2 => if ((l2 >>> (l3 &&& 31)) &&& (1 : Int32)) = (1 : Int32) then (if x2 = (-1 : Int32) then (fxX7_leastMate_b76 (fxX7_leastMate_b4 n) l0 l1 l2 l3 h) else (am_lt ((l2 &&& (((1 : Int32) <<< (l1 &&& 31)) ^^^ (-1 : Int32))) &&& (((1 : Int32) <<< (l3 &&& 31)) ^^^ (-1 : Int32))) (fun x3 => am_gd (am_ob h l0 7) (am_gd (am_ix h (am_gr h l0 1) 0 x3) (am_gd (am_ob h l0 7) (am_gd (am_ix h (am_gr h l0 1) 0 l2) (if (x2 + (am_gi h (am_gr h l0 1) x3.toNatClampNeg)) = (am_gi h (am_gr h l0 1) l2.toNatClampNeg) then (some (l3, h)) else (fxX7_leastMate_b76 (fxX7_leastMate_b4 n) l0 l1 l2 l3 h)))))))) else (fxX7_leastMate_b76 (fxX7_leastMate_b4 n) l0 l1 l2 l3 h))))))
set_option maxRecDepth 100000 in
theorem sxX7_leastMate_b4 {xs : List Int32} : ∀ (n : Nat) (l0 : Option Nat) (l1 : Int32) (l2 : Int32) (l3 : Int32) (h : am_H), am_Sm xs am_ci mX7_leastMate 0 0 0 4 [some (am_R l0), some (am_I l1), some (am_I l2), some (am_I l3), none, none] [] h (fxX7_leastMate_b4 n l0 l1 l2 l3 h) := by
  intro n
  induction n with
  | zero => intros; exact am_none
  | succ n ih =>
    intro l0 l1 l2 l3 h
    rw [fxX7_leastMate_b4]
    refine am_iload_n dX7_leastMate_4 rfl ?_
    refine am_aload_n dX7_leastMate_5 rfl ?_
    refine am_getI dX7_leastMate_6 fk_RX7_21 rfl ?_
    refine am_icmp_ge (tgt := 82) dX7_leastMate_9 (by decide) (fun c7 => ?_) (fun c7 => ?_)
    · refine am_iconst (v := (-1)) dX7_leastMate_82 (by decide) ?_
      exact am_iret dX7_leastMate_83 rfl rfl
    refine am_aload_n dX7_leastMate_12 rfl ?_
    refine am_getR dX7_leastMate_13 fk_RX7_9 rfl ?_
    refine am_iload_n dX7_leastMate_16 rfl ?_
    refine am_bipush (v := 10) dX7_leastMate_17 (by decide) ?_
    refine am_imul dX7_leastMate_19 ?_
    refine am_iload_n dX7_leastMate_20 rfl ?_
    refine am_iadd dX7_leastMate_21 ?_
    refine am_iald dX7_leastMate_22 ?_
    refine am_istore (LL := fun y9 => [some (am_R l0), some (am_I l1), some (am_I l2), some (am_I l3), some (am_I y9), none]) dX7_leastMate_23 (by decide) (fun _ => rfl) (fun x2 => ?_)
    refine am_iload_n dX7_leastMate_25 rfl ?_
    refine am_iload_n dX7_leastMate_26 rfl ?_
    refine am_ishr dX7_leastMate_27 ?_
    refine am_iconst (v := 1) dX7_leastMate_28 (by decide) ?_
    refine am_iand dX7_leastMate_29 ?_
    refine am_iconst (v := 1) dX7_leastMate_30 (by decide) ?_
    refine am_icmp_ne (tgt := 76) dX7_leastMate_31 (by decide) (fun c6 => ?_) (fun c6 => ?_)
    · exact am_weak (sxX7_leastMate_b76 (fxX7_leastMate_b4 n) ih l0 l1 l2 l3 h) ⟨rfl, ⟨rfl, ⟨rfl, ⟨rfl, trivial⟩⟩⟩⟩ (Nat.le_refl _) (Nat.le_refl _)
    refine am_iload dX7_leastMate_34 rfl ?_
    refine am_iconst (v := (-1)) dX7_leastMate_36 (by decide) ?_
    refine am_icmp_eq (tgt := 76) dX7_leastMate_37 (by decide) (fun c5 => ?_) (fun c5 => ?_)
    · exact am_weak (sxX7_leastMate_b76 (fxX7_leastMate_b4 n) ih l0 l1 l2 l3 h) ⟨rfl, ⟨rfl, ⟨rfl, ⟨rfl, trivial⟩⟩⟩⟩ (Nat.le_refl _) (Nat.le_refl _)
    refine am_iload_n dX7_leastMate_40 rfl ?_
    refine am_iconst (v := 1) dX7_leastMate_41 (by decide) ?_
    refine am_iload_n dX7_leastMate_42 rfl ?_
    refine am_ishl dX7_leastMate_43 ?_
    refine am_iconst (v := (-1)) dX7_leastMate_44 (by decide) ?_
    refine am_ixor dX7_leastMate_45 ?_
    refine am_iand dX7_leastMate_46 ?_
    refine am_iconst (v := 1) dX7_leastMate_47 (by decide) ?_
    refine am_iload_n dX7_leastMate_48 rfl ?_
    refine am_ishl dX7_leastMate_49 ?_
    refine am_iconst (v := (-1)) dX7_leastMate_50 (by decide) ?_
    refine am_ixor dX7_leastMate_51 ?_
    refine am_iand dX7_leastMate_52 ?_
    refine am_istore (LL := fun y9 => [some (am_R l0), some (am_I l1), some (am_I l2), some (am_I l3), some (am_I x2), some (am_I y9)]) dX7_leastMate_53 (by decide) (fun _ => rfl) (fun x3 => ?_)
    refine am_iload dX7_leastMate_55 rfl ?_
    refine am_aload_n dX7_leastMate_57 rfl ?_
    refine am_getR dX7_leastMate_58 fk_RX7_15 rfl ?_
    refine am_iload dX7_leastMate_61 rfl ?_
    refine am_iald dX7_leastMate_63 ?_
    refine am_iadd dX7_leastMate_64 ?_
    refine am_aload_n dX7_leastMate_65 rfl ?_
    refine am_getR dX7_leastMate_66 fk_RX7_15 rfl ?_
    refine am_iload_n dX7_leastMate_69 rfl ?_
    refine am_iald dX7_leastMate_70 ?_
    refine am_icmp_ne (tgt := 76) dX7_leastMate_71 (by decide) (fun c4 => ?_) (fun c4 => ?_)
    · exact am_weak (sxX7_leastMate_b76 (fxX7_leastMate_b4 n) ih l0 l1 l2 l3 h) ⟨rfl, ⟨rfl, ⟨rfl, ⟨rfl, trivial⟩⟩⟩⟩ (Nat.le_refl _) (Nat.le_refl _)
    refine am_iload_n dX7_leastMate_74 rfl ?_
    exact am_iret dX7_leastMate_75 rfl rfl
def fxX7_leastMate (l0 : Option Nat) (l1 : Int32) (l2 : Int32) (h : am_H) : Option (Int32 × am_H) := am_lt (l1 + (1 : Int32)) (fun x1 => fxX7_leastMate_b4 am_F l0 l1 l2 x1 h)
set_option maxRecDepth 100000 in
theorem sxX7_leastMate {xs : List Int32} (l0 : Option Nat) (l1 : Int32) (l2 : Int32) (h : am_H) : am_Sm xs am_ci mX7_leastMate 0 0 0 0 [some (am_R l0), some (am_I l1), some (am_I l2), none, none, none] [] h (fxX7_leastMate l0 l1 l2 h) := by
  unfold fxX7_leastMate
  refine am_iload_n dX7_leastMate_0 rfl ?_
  refine am_iconst (v := 1) dX7_leastMate_1 (by decide) ?_
  refine am_iadd dX7_leastMate_2 ?_
  refine am_istore_n (LL := fun y9 => [some (am_R l0), some (am_I l1), some (am_I l2), some (am_I y9), none, none]) dX7_leastMate_3 (by decide) (fun _ => rfl) (fun x1 => ?_)
  exact am_weak (sxX7_leastMate_b4 am_F l0 l1 l2 x1 h) ⟨rfl, ⟨rfl, ⟨rfl, ⟨rfl, trivial⟩⟩⟩⟩ (Nat.le_refl _) (Nat.le_refl _)
theorem txX7_leastMate {xs : List Int32} (l0 : Option Nat) (l1 : Int32) (l2 : Int32) (h : am_H) (a : Int32) (h2 : am_H) (e : fxX7_leastMate l0 l1 l2 h = some (a, h2)) : am_Ct xs mX7_leastMate 0 0 0 [am_R l0, am_I l1, am_I l2] h (fun v h3 => v = am_ci a ∧ h3 = h2) := am_meth okX7_leastMate (Nat.le_of_ble_eq_true rfl) rfl (sxX7_leastMate l0 l1 l2 h) e
theorem dX7_mateOf_0 : am_at cX7_mateOf 0 (.iconst 1) 1 1 := by decide +kernel
theorem dX7_mateOf_1 : am_at cX7_mateOf 1 (.aload_n 0) 1 2 := by decide +kernel
theorem dX7_mateOf_2 : am_at cX7_mateOf 2 (.getfield 21) 3 5 := by decide +kernel
theorem dX7_mateOf_5 : am_at cX7_mateOf 5 (.ishl) 1 6 := by decide +kernel
theorem dX7_mateOf_6 : am_at cX7_mateOf 6 (.iconst 1) 1 7 := by decide +kernel
theorem dX7_mateOf_7 : am_at cX7_mateOf 7 (.isub) 1 8 := by decide +kernel
theorem dX7_mateOf_8 : am_at cX7_mateOf 8 (.istore_n 2) 1 9 := by decide +kernel
theorem dX7_mateOf_9 : am_at cX7_mateOf 9 (.iconst 0) 1 10 := by decide +kernel
theorem dX7_mateOf_10 : am_at cX7_mateOf 10 (.istore_n 3) 1 11 := by decide +kernel
theorem dX7_mateOf_11 : am_at cX7_mateOf 11 (.iload_n 3) 1 12 := by decide +kernel
theorem dX7_mateOf_12 : am_at cX7_mateOf 12 (.aload_n 0) 1 13 := by decide +kernel
theorem dX7_mateOf_13 : am_at cX7_mateOf 13 (.getfield 21) 3 16 := by decide +kernel
theorem dX7_mateOf_16 : am_at cX7_mateOf 16 (.if_icmp .ge 65) 3 19 := by decide +kernel
theorem dX7_mateOf_19 : am_at cX7_mateOf 19 (.iload_n 2) 1 20 := by decide +kernel
theorem dX7_mateOf_20 : am_at cX7_mateOf 20 (.iload_n 3) 1 21 := by decide +kernel
theorem dX7_mateOf_21 : am_at cX7_mateOf 21 (.ishr) 1 22 := by decide +kernel
theorem dX7_mateOf_22 : am_at cX7_mateOf 22 (.iconst 1) 1 23 := by decide +kernel
theorem dX7_mateOf_23 : am_at cX7_mateOf 23 (.iand) 1 24 := by decide +kernel
theorem dX7_mateOf_24 : am_at cX7_mateOf 24 (.iconst 1) 1 25 := by decide +kernel
theorem dX7_mateOf_25 : am_at cX7_mateOf 25 (.if_icmp .ne 50) 3 28 := by decide +kernel
theorem dX7_mateOf_28 : am_at cX7_mateOf 28 (.aload_n 0) 1 29 := by decide +kernel
theorem dX7_mateOf_29 : am_at cX7_mateOf 29 (.iload_n 3) 1 30 := by decide +kernel
theorem dX7_mateOf_30 : am_at cX7_mateOf 30 (.iload_n 2) 1 31 := by decide +kernel
theorem dX7_mateOf_31 : am_at cX7_mateOf 31 (.invokevirtual 47) 3 34 := by decide +kernel
theorem dX7_mateOf_34 : am_at cX7_mateOf 34 (.istore 4) 2 36 := by decide +kernel
theorem dX7_mateOf_36 : am_at cX7_mateOf 36 (.iload_n 3) 1 37 := by decide +kernel
theorem dX7_mateOf_37 : am_at cX7_mateOf 37 (.iload_n 1) 1 38 := by decide +kernel
theorem dX7_mateOf_38 : am_at cX7_mateOf 38 (.if_icmp .ne 6) 3 41 := by decide +kernel
theorem dX7_mateOf_41 : am_at cX7_mateOf 41 (.iload 4) 2 43 := by decide +kernel
theorem dX7_mateOf_43 : am_at cX7_mateOf 43 (.ireturn) 1 44 := by decide +kernel
theorem dX7_mateOf_44 : am_at cX7_mateOf 44 (.iload 4) 2 46 := by decide +kernel
theorem dX7_mateOf_46 : am_at cX7_mateOf 46 (.iload_n 1) 1 47 := by decide +kernel
theorem dX7_mateOf_47 : am_at cX7_mateOf 47 (.if_icmp .ne 5) 3 50 := by decide +kernel
theorem dX7_mateOf_50 : am_at cX7_mateOf 50 (.iload_n 3) 1 51 := by decide +kernel
theorem dX7_mateOf_51 : am_at cX7_mateOf 51 (.ireturn) 1 52 := by decide +kernel
theorem dX7_mateOf_52 : am_at cX7_mateOf 52 (.iload_n 2) 1 53 := by decide +kernel
theorem dX7_mateOf_53 : am_at cX7_mateOf 53 (.iconst 1) 1 54 := by decide +kernel
theorem dX7_mateOf_54 : am_at cX7_mateOf 54 (.iload_n 3) 1 55 := by decide +kernel
theorem dX7_mateOf_55 : am_at cX7_mateOf 55 (.ishl) 1 56 := by decide +kernel
theorem dX7_mateOf_56 : am_at cX7_mateOf 56 (.iconst (-1)) 1 57 := by decide +kernel
theorem dX7_mateOf_57 : am_at cX7_mateOf 57 (.ixor) 1 58 := by decide +kernel
theorem dX7_mateOf_58 : am_at cX7_mateOf 58 (.iand) 1 59 := by decide +kernel
theorem dX7_mateOf_59 : am_at cX7_mateOf 59 (.istore_n 2) 1 60 := by decide +kernel
theorem dX7_mateOf_60 : am_at cX7_mateOf 60 (.iload 4) 2 62 := by decide +kernel
theorem dX7_mateOf_62 : am_at cX7_mateOf 62 (.iconst (-1)) 1 63 := by decide +kernel
theorem dX7_mateOf_63 : am_at cX7_mateOf 63 (.if_icmp .eq 12) 3 66 := by decide +kernel
theorem dX7_mateOf_66 : am_at cX7_mateOf 66 (.iload_n 2) 1 67 := by decide +kernel
theorem dX7_mateOf_67 : am_at cX7_mateOf 67 (.iconst 1) 1 68 := by decide +kernel
theorem dX7_mateOf_68 : am_at cX7_mateOf 68 (.iload 4) 2 70 := by decide +kernel
theorem dX7_mateOf_70 : am_at cX7_mateOf 70 (.ishl) 1 71 := by decide +kernel
theorem dX7_mateOf_71 : am_at cX7_mateOf 71 (.iconst (-1)) 1 72 := by decide +kernel
theorem dX7_mateOf_72 : am_at cX7_mateOf 72 (.ixor) 1 73 := by decide +kernel
theorem dX7_mateOf_73 : am_at cX7_mateOf 73 (.iand) 1 74 := by decide +kernel
theorem dX7_mateOf_74 : am_at cX7_mateOf 74 (.istore_n 2) 1 75 := by decide +kernel
theorem dX7_mateOf_75 : am_at cX7_mateOf 75 (.iinc 3 1) 3 78 := by decide +kernel
theorem dX7_mateOf_78 : am_at cX7_mateOf 78 (.goto (-67)) 3 81 := by decide +kernel
theorem dX7_mateOf_81 : am_at cX7_mateOf 81 (.iconst (-1)) 1 82 := by decide +kernel
theorem dX7_mateOf_82 : am_at cX7_mateOf 82 (.ireturn) 1 83 := by decide +kernel
def fxX7_mateOf_b75 (k11 : Option Nat → Int32 → Int32 → Int32 → am_H → Option (Int32 × am_H)) (l0 : Option Nat) (l1 : Int32) (l2 : Int32) (l3 : Int32) (h : am_H) : Option (Int32 × am_H) := am_lt (l3 + 1) (fun x13 => k11 l0 l1 l2 x13 h)
set_option maxRecDepth 100000 in
theorem sxX7_mateOf_b75 {xs : List Int32} (k11 : Option Nat → Int32 → Int32 → Int32 → am_H → Option (Int32 × am_H)) (hk11 : ∀ (l0 : Option Nat) (l1 : Int32) (l2 : Int32) (l3 : Int32) (h : am_H), am_Sm xs am_ci mX7_mateOf 1 0 0 11 [some (am_R l0), some (am_I l1), some (am_I l2), some (am_I l3), none] [] h (k11 l0 l1 l2 l3 h)) (l0 : Option Nat) (l1 : Int32) (l2 : Int32) (l3 : Int32) (h : am_H) : am_Sm xs am_ci mX7_mateOf 1 0 0 75 [some (am_R l0), some (am_I l1), some (am_I l2), some (am_I l3), none] [] h (fxX7_mateOf_b75 k11 l0 l1 l2 l3 h) := by
  unfold fxX7_mateOf_b75
  refine am_iinc (v := 1) (LL := fun y9 => [some (am_R l0), some (am_I l1), some (am_I l2), some (am_I y9), none]) dX7_mateOf_75 (by decide) rfl (by decide) (fun _ => rfl) (fun x13 => ?_)
  refine am_goto (tgt := 11) dX7_mateOf_78 (by decide) ?_
  exact am_weak (hk11 l0 l1 l2 x13 h) ⟨rfl, ⟨rfl, ⟨rfl, ⟨rfl, trivial⟩⟩⟩⟩ (Nat.le_refl _) (Nat.le_refl _)
def fxX7_mateOf_b11 : Nat → Option Nat → Int32 → Int32 → Int32 → am_H → Option (Int32 × am_H)
  | 0, _, _, _, _, _ => none
  | n + 1, l0, l1, l2, l3, h => am_gd (am_ob h l0 7) (if (am_gi h l0 3) ≤ l3 then (some ((-1 : Int32), h)) else (if ((l2 >>> (l3 &&& 31)) &&& (1 : Int32)) = (1 : Int32) then (am_gd (am_ob h l0 7) (am_bd (fxX7_leastMate l0 l3 l2 h) (fun r3 h4 => am_lt r3 (fun x5 => if l3 = l1 then (some (x5, h4)) else (if x5 = l1 then (some (l3, h4)) else (am_lt (l2 &&& (((1 : Int32) <<< (l3 &&& 31)) ^^^ (-1 : Int32))) (fun x6 => if x5 = (-1 : Int32) then (fxX7_mateOf_b75 (fxX7_mateOf_b11 n) l0 l1 x6 l3 h4) else (am_lt (x6 &&& (((1 : Int32) <<< (x5 &&& 31)) ^^^ (-1 : Int32))) (fun x7 => fxX7_mateOf_b75 (fxX7_mateOf_b11 n) l0 l1 x7 l3 h4))))))))) else (fxX7_mateOf_b75 (fxX7_mateOf_b11 n) l0 l1 l2 l3 h)))
set_option maxRecDepth 100000 in
theorem sxX7_mateOf_b11 {xs : List Int32} : ∀ (n : Nat) (l0 : Option Nat) (l1 : Int32) (l2 : Int32) (l3 : Int32) (h : am_H), am_Sm xs am_ci mX7_mateOf 1 0 0 11 [some (am_R l0), some (am_I l1), some (am_I l2), some (am_I l3), none] [] h (fxX7_mateOf_b11 n l0 l1 l2 l3 h) := by
  intro n
  induction n with
  | zero => intros; exact am_none
  | succ n ih =>
    intro l0 l1 l2 l3 h
    rw [fxX7_mateOf_b11]
    refine am_iload_n dX7_mateOf_11 rfl ?_
    refine am_aload_n dX7_mateOf_12 rfl ?_
    refine am_getI dX7_mateOf_13 fk_RX7_21 rfl ?_
    refine am_icmp_ge (tgt := 81) dX7_mateOf_16 (by decide) (fun c12 => ?_) (fun c12 => ?_)
    · refine am_iconst (v := (-1)) dX7_mateOf_81 (by decide) ?_
      exact am_iret dX7_mateOf_82 rfl rfl
    refine am_iload_n dX7_mateOf_19 rfl ?_
    refine am_iload_n dX7_mateOf_20 rfl ?_
    refine am_ishr dX7_mateOf_21 ?_
    refine am_iconst (v := 1) dX7_mateOf_22 (by decide) ?_
    refine am_iand dX7_mateOf_23 ?_
    refine am_iconst (v := 1) dX7_mateOf_24 (by decide) ?_
    refine am_icmp_ne (tgt := 75) dX7_mateOf_25 (by decide) (fun c11 => ?_) (fun c11 => ?_)
    · exact am_weak (sxX7_mateOf_b75 (fxX7_mateOf_b11 n) ih l0 l1 l2 l3 h) ⟨rfl, ⟨rfl, ⟨rfl, ⟨rfl, trivial⟩⟩⟩⟩ (Nat.le_refl _) (Nat.le_refl _)
    refine am_aload_n dX7_mateOf_28 rfl ?_
    refine am_iload_n dX7_mateOf_29 rfl ?_
    refine am_iload_n dX7_mateOf_30 rfl ?_
    refine am_callV (cvj := am_ci) (mtj := mX7_leastMate) (dj := 0) (nj := 2) (rcj := 0) (rsj := 0) (rc' := 0) (rs' := 0) (ci := 7) (st' := fun a9 => (am_I a9 :: [])) ⟨_, rfl, rfl⟩ [am_I l3, am_I l2] [] dX7_mateOf_31 okX7_leastMate lk_RX7_47 (fun zA zH zE => txX7_leastMate l0 l3 l2 h zA zH zE) rfl (fun _ => rfl) (by decide) rfl (Nat.le_of_ble_eq_true rfl) (by decide) (by decide) (fun r3 h4 => ?_)
    refine am_istore (LL := fun y9 => [some (am_R l0), some (am_I l1), some (am_I l2), some (am_I l3), some (am_I y9)]) dX7_mateOf_34 (by decide) (fun _ => rfl) (fun x5 => ?_)
    refine am_iload_n dX7_mateOf_36 rfl ?_
    refine am_iload_n dX7_mateOf_37 rfl ?_
    refine am_icmp_ne (tgt := 44) dX7_mateOf_38 (by decide) (fun c10 => ?_) (fun c10 => ?_)
    · refine am_iload dX7_mateOf_44 rfl ?_
      refine am_iload_n dX7_mateOf_46 rfl ?_
      refine am_icmp_ne (tgt := 52) dX7_mateOf_47 (by decide) (fun c9 => ?_) (fun c9 => ?_)
      · refine am_iload_n dX7_mateOf_52 rfl ?_
        refine am_iconst (v := 1) dX7_mateOf_53 (by decide) ?_
        refine am_iload_n dX7_mateOf_54 rfl ?_
        refine am_ishl dX7_mateOf_55 ?_
        refine am_iconst (v := (-1)) dX7_mateOf_56 (by decide) ?_
        refine am_ixor dX7_mateOf_57 ?_
        refine am_iand dX7_mateOf_58 ?_
        refine am_istore_n (LL := fun y9 => [some (am_R l0), some (am_I l1), some (am_I y9), some (am_I l3), some (am_I x5)]) dX7_mateOf_59 (by decide) (fun _ => rfl) (fun x6 => ?_)
        refine am_iload dX7_mateOf_60 rfl ?_
        refine am_iconst (v := (-1)) dX7_mateOf_62 (by decide) ?_
        refine am_icmp_eq (tgt := 75) dX7_mateOf_63 (by decide) (fun c8 => ?_) (fun c8 => ?_)
        · exact am_weak (sxX7_mateOf_b75 (fxX7_mateOf_b11 n) ih l0 l1 x6 l3 h4) ⟨rfl, ⟨rfl, ⟨rfl, ⟨rfl, trivial⟩⟩⟩⟩ (Nat.le_refl _) (Nat.le_refl _)
        refine am_iload_n dX7_mateOf_66 rfl ?_
        refine am_iconst (v := 1) dX7_mateOf_67 (by decide) ?_
        refine am_iload dX7_mateOf_68 rfl ?_
        refine am_ishl dX7_mateOf_70 ?_
        refine am_iconst (v := (-1)) dX7_mateOf_71 (by decide) ?_
        refine am_ixor dX7_mateOf_72 ?_
        refine am_iand dX7_mateOf_73 ?_
        refine am_istore_n (LL := fun y9 => [some (am_R l0), some (am_I l1), some (am_I y9), some (am_I l3), some (am_I x5)]) dX7_mateOf_74 (by decide) (fun _ => rfl) (fun x7 => ?_)
        exact am_weak (sxX7_mateOf_b75 (fxX7_mateOf_b11 n) ih l0 l1 x7 l3 h4) ⟨rfl, ⟨rfl, ⟨rfl, ⟨rfl, trivial⟩⟩⟩⟩ (Nat.le_refl _) (Nat.le_refl _)
      refine am_iload_n dX7_mateOf_50 rfl ?_
      exact am_iret dX7_mateOf_51 rfl rfl
    refine am_iload dX7_mateOf_41 rfl ?_
    exact am_iret dX7_mateOf_43 rfl rfl
def fxX7_mateOf (l0 : Option Nat) (l1 : Int32) (h : am_H) : Option (Int32 × am_H) := am_gd (am_ob h l0 7) (am_lt (((1 : Int32) <<< ((am_gi h l0 3) &&& 31)) - (1 : Int32)) (fun x1 => am_lt (0 : Int32) (fun x2 => fxX7_mateOf_b11 am_F l0 l1 x1 x2 h)))
set_option maxRecDepth 100000 in
theorem sxX7_mateOf {xs : List Int32} (l0 : Option Nat) (l1 : Int32) (h : am_H) : am_Sm xs am_ci mX7_mateOf 1 0 0 0 [some (am_R l0), some (am_I l1), none, none, none] [] h (fxX7_mateOf l0 l1 h) := by
  unfold fxX7_mateOf
  refine am_iconst (v := 1) dX7_mateOf_0 (by decide) ?_
  refine am_aload_n dX7_mateOf_1 rfl ?_
  refine am_getI dX7_mateOf_2 fk_RX7_21 rfl ?_
  refine am_ishl dX7_mateOf_5 ?_
  refine am_iconst (v := 1) dX7_mateOf_6 (by decide) ?_
  refine am_isub dX7_mateOf_7 ?_
  refine am_istore_n (LL := fun y9 => [some (am_R l0), some (am_I l1), some (am_I y9), none, none]) dX7_mateOf_8 (by decide) (fun _ => rfl) (fun x1 => ?_)
  refine am_iconst (v := 0) dX7_mateOf_9 (by decide) ?_
  refine am_istore_n (LL := fun y9 => [some (am_R l0), some (am_I l1), some (am_I x1), some (am_I y9), none]) dX7_mateOf_10 (by decide) (fun _ => rfl) (fun x2 => ?_)
  exact am_weak (sxX7_mateOf_b11 am_F l0 l1 x1 x2 h) ⟨rfl, ⟨rfl, ⟨rfl, ⟨rfl, trivial⟩⟩⟩⟩ (Nat.le_refl _) (Nat.le_refl _)
theorem txX7_mateOf {xs : List Int32} (l0 : Option Nat) (l1 : Int32) (h : am_H) (a : Int32) (h2 : am_H) (e : fxX7_mateOf l0 l1 h = some (a, h2)) : am_Ct xs mX7_mateOf 1 0 0 [am_R l0, am_I l1] h (fun v h3 => v = am_ci a ∧ h3 = h2) := am_meth okX7_mateOf (Nat.le_of_ble_eq_true rfl) rfl (sxX7_mateOf l0 l1 h) e
theorem dX7_toldMate_0 : am_at cX7_toldMate 0 (.aload_n 2) 1 1 := by decide +kernel
theorem dX7_toldMate_1 : am_at cX7_toldMate 1 (.iload_n 1) 1 2 := by decide +kernel
theorem dX7_toldMate_2 : am_at cX7_toldMate 2 (.invokevirtual 54) 3 5 := by decide +kernel
theorem dX7_toldMate_5 : am_at cX7_toldMate 5 (.ifCond .ne 5) 3 8 := by decide +kernel
theorem dX7_toldMate_8 : am_at cX7_toldMate 8 (.iconst (-1)) 1 9 := by decide +kernel
theorem dX7_toldMate_9 : am_at cX7_toldMate 9 (.ireturn) 1 10 := by decide +kernel
theorem dX7_toldMate_10 : am_at cX7_toldMate 10 (.aload_n 2) 1 11 := by decide +kernel
theorem dX7_toldMate_11 : am_at cX7_toldMate 11 (.getfield 60) 3 14 := by decide +kernel
theorem dX7_toldMate_14 : am_at cX7_toldMate 14 (.iload_n 1) 1 15 := by decide +kernel
theorem dX7_toldMate_15 : am_at cX7_toldMate 15 (.iaload) 1 16 := by decide +kernel
theorem dX7_toldMate_16 : am_at cX7_toldMate 16 (.istore_n 3) 1 17 := by decide +kernel
theorem dX7_toldMate_17 : am_at cX7_toldMate 17 (.iload_n 3) 1 18 := by decide +kernel
theorem dX7_toldMate_18 : am_at cX7_toldMate 18 (.iconst 0) 1 19 := by decide +kernel
theorem dX7_toldMate_19 : am_at cX7_toldMate 19 (.aload_n 0) 1 20 := by decide +kernel
theorem dX7_toldMate_20 : am_at cX7_toldMate 20 (.getfield 21) 3 23 := by decide +kernel
theorem dX7_toldMate_23 : am_at cX7_toldMate 23 (.iconst 1) 1 24 := by decide +kernel
theorem dX7_toldMate_24 : am_at cX7_toldMate 24 (.isub) 1 25 := by decide +kernel
theorem dX7_toldMate_25 : am_at cX7_toldMate 25 (.invokestatic 43) 3 28 := by decide +kernel
theorem dX7_toldMate_28 : am_at cX7_toldMate 28 (.ifCond .eq 8) 3 31 := by decide +kernel
theorem dX7_toldMate_31 : am_at cX7_toldMate 31 (.iload_n 3) 1 32 := by decide +kernel
theorem dX7_toldMate_32 : am_at cX7_toldMate 32 (.iload_n 1) 1 33 := by decide +kernel
theorem dX7_toldMate_33 : am_at cX7_toldMate 33 (.if_icmp .ne 5) 3 36 := by decide +kernel
theorem dX7_toldMate_36 : am_at cX7_toldMate 36 (.iconst (-1)) 1 37 := by decide +kernel
theorem dX7_toldMate_37 : am_at cX7_toldMate 37 (.ireturn) 1 38 := by decide +kernel
theorem dX7_toldMate_38 : am_at cX7_toldMate 38 (.aload_n 2) 1 39 := by decide +kernel
theorem dX7_toldMate_39 : am_at cX7_toldMate 39 (.iload_n 3) 1 40 := by decide +kernel
theorem dX7_toldMate_40 : am_at cX7_toldMate 40 (.invokevirtual 54) 3 43 := by decide +kernel
theorem dX7_toldMate_43 : am_at cX7_toldMate 43 (.ifCond .eq 17) 3 46 := by decide +kernel
theorem dX7_toldMate_46 : am_at cX7_toldMate 46 (.aload_n 2) 1 47 := by decide +kernel
theorem dX7_toldMate_47 : am_at cX7_toldMate 47 (.getfield 60) 3 50 := by decide +kernel
theorem dX7_toldMate_50 : am_at cX7_toldMate 50 (.iload_n 3) 1 51 := by decide +kernel
theorem dX7_toldMate_51 : am_at cX7_toldMate 51 (.iaload) 1 52 := by decide +kernel
theorem dX7_toldMate_52 : am_at cX7_toldMate 52 (.iload_n 1) 1 53 := by decide +kernel
theorem dX7_toldMate_53 : am_at cX7_toldMate 53 (.if_icmp .ne 7) 3 56 := by decide +kernel
theorem dX7_toldMate_56 : am_at cX7_toldMate 56 (.iconst 1) 1 57 := by decide +kernel
theorem dX7_toldMate_57 : am_at cX7_toldMate 57 (.goto 4) 3 60 := by decide +kernel
theorem dX7_toldMate_60 : am_at cX7_toldMate 60 (.iconst 0) 1 61 := by decide +kernel
theorem dX7_toldMate_61 : am_at cX7_toldMate 61 (.istore 4) 2 63 := by decide +kernel
theorem dX7_toldMate_63 : am_at cX7_toldMate 63 (.iload 4) 2 65 := by decide +kernel
theorem dX7_toldMate_65 : am_at cX7_toldMate 65 (.ifCond .eq 22) 3 68 := by decide +kernel
theorem dX7_toldMate_68 : am_at cX7_toldMate 68 (.aload_n 0) 1 69 := by decide +kernel
theorem dX7_toldMate_69 : am_at cX7_toldMate 69 (.getfield 9) 3 72 := by decide +kernel
theorem dX7_toldMate_72 : am_at cX7_toldMate 72 (.iload_n 1) 1 73 := by decide +kernel
theorem dX7_toldMate_73 : am_at cX7_toldMate 73 (.bipush 10) 2 75 := by decide +kernel
theorem dX7_toldMate_75 : am_at cX7_toldMate 75 (.imul) 1 76 := by decide +kernel
theorem dX7_toldMate_76 : am_at cX7_toldMate 76 (.iload_n 3) 1 77 := by decide +kernel
theorem dX7_toldMate_77 : am_at cX7_toldMate 77 (.iadd) 1 78 := by decide +kernel
theorem dX7_toldMate_78 : am_at cX7_toldMate 78 (.iaload) 1 79 := by decide +kernel
theorem dX7_toldMate_79 : am_at cX7_toldMate 79 (.iconst (-1)) 1 80 := by decide +kernel
theorem dX7_toldMate_80 : am_at cX7_toldMate 80 (.if_icmp .eq 7) 3 83 := by decide +kernel
theorem dX7_toldMate_83 : am_at cX7_toldMate 83 (.iload_n 3) 1 84 := by decide +kernel
theorem dX7_toldMate_84 : am_at cX7_toldMate 84 (.goto 4) 3 87 := by decide +kernel
theorem dX7_toldMate_87 : am_at cX7_toldMate 87 (.iconst (-1)) 1 88 := by decide +kernel
theorem dX7_toldMate_88 : am_at cX7_toldMate 88 (.ireturn) 1 89 := by decide +kernel
def fxX7_toldMate_b61 (l0 : Option Nat) (l1 : Int32) (l3 : Int32) (s0 : Int32) (h : am_H) : Option (Int32 × am_H) := am_lt s0 (fun x13 => if x13 = 0 then (some ((-1 : Int32), h)) else (am_gd (am_ob h l0 7) (am_gd (am_ix h (am_gr h l0 0) 0 ((l1 * (10 : Int32)) + l3)) (if (am_gi h (am_gr h l0 0) ((l1 * (10 : Int32)) + l3).toNatClampNeg) = (-1 : Int32) then (some ((-1 : Int32), h)) else (some (l3, h))))))
set_option maxRecDepth 100000 in
theorem sxX7_toldMate_b61 {xs : List Int32} (l0 : Option Nat) (l1 : Int32) (l3 : Int32) (s0 : Int32) (h : am_H) : am_Sm xs am_ci mX7_toldMate 3 0 0 61 [some (am_R l0), some (am_I l1), none, some (am_I l3), none] [am_I s0] h (fxX7_toldMate_b61 l0 l1 l3 s0 h) := by
  unfold fxX7_toldMate_b61
  refine am_istore (LL := fun y9 => [some (am_R l0), some (am_I l1), none, some (am_I l3), some (am_I y9)]) dX7_toldMate_61 (by decide) (fun _ => rfl) (fun x13 => ?_)
  refine am_iload dX7_toldMate_63 rfl ?_
  refine am_if_eq (tgt := 87) dX7_toldMate_65 (by decide) (fun c15 => ?_) (fun c15 => ?_)
  · refine am_iconst (v := (-1)) dX7_toldMate_87 (by decide) ?_
    exact am_iret dX7_toldMate_88 rfl rfl
  refine am_aload_n dX7_toldMate_68 rfl ?_
  refine am_getR dX7_toldMate_69 fk_RX7_9 rfl ?_
  refine am_iload_n dX7_toldMate_72 rfl ?_
  refine am_bipush (v := 10) dX7_toldMate_73 (by decide) ?_
  refine am_imul dX7_toldMate_75 ?_
  refine am_iload_n dX7_toldMate_76 rfl ?_
  refine am_iadd dX7_toldMate_77 ?_
  refine am_iald dX7_toldMate_78 ?_
  refine am_iconst (v := (-1)) dX7_toldMate_79 (by decide) ?_
  refine am_icmp_eq (tgt := 87) dX7_toldMate_80 (by decide) (fun c14 => ?_) (fun c14 => ?_)
  · refine am_iconst (v := (-1)) dX7_toldMate_87 (by decide) ?_
    exact am_iret dX7_toldMate_88 rfl rfl
  refine am_iload_n dX7_toldMate_83 rfl ?_
  refine am_goto (tgt := 88) dX7_toldMate_84 (by decide) ?_
  exact am_iret dX7_toldMate_88 rfl rfl
def fxX7_toldMate_b60 (l0 : Option Nat) (l1 : Int32) (l3 : Int32) (h : am_H) : Option (Int32 × am_H) := fxX7_toldMate_b61 l0 l1 l3 (0 : Int32) h
set_option maxRecDepth 100000 in
theorem sxX7_toldMate_b60 {xs : List Int32} (l0 : Option Nat) (l1 : Int32) (l3 : Int32) (h : am_H) : am_Sm xs am_ci mX7_toldMate 3 0 0 60 [some (am_R l0), some (am_I l1), none, some (am_I l3), none] [] h (fxX7_toldMate_b60 l0 l1 l3 h) := by
  unfold fxX7_toldMate_b60
  refine am_iconst (v := 0) dX7_toldMate_60 (by decide) ?_
  exact am_weak (sxX7_toldMate_b61 l0 l1 l3 (0 : Int32) h) ⟨rfl, ⟨rfl, ⟨rfl, trivial⟩⟩⟩ (Nat.le_refl _) (Nat.le_refl _)
def fxX7_toldMate (l0 : Option Nat) (l1 : Int32) (l2 : Option Nat) (h : am_H) : Option (Int32 × am_H) := am_gd (am_ob h l2 5) (am_bd (fxX5_hasNumber l2 l1 h) (fun r1 h2 => if r1 = 0 then (some ((-1 : Int32), h2)) else (am_gd (am_ob h2 l2 5) (am_gd (am_ix h2 (am_gr h2 l2 2) 0 l1) (am_lt (am_gi h2 (am_gr h2 l2 2) l1.toNatClampNeg) (fun x3 => am_gd (am_ob h2 l0 7) (am_bd (fxX9_within x3 (0 : Int32) ((am_gi h2 l0 3) - (1 : Int32)) h2) (fun r4 h5 => if r4 = 0 then (some ((-1 : Int32), h5)) else (if x3 = l1 then (some ((-1 : Int32), h5)) else (am_gd (am_ob h5 l2 5) (am_bd (fxX5_hasNumber l2 x3 h5) (fun r6 h7 => if r6 = 0 then (fxX7_toldMate_b60 l0 l1 x3 h7) else (am_gd (am_ob h7 l2 5) (am_gd (am_ix h7 (am_gr h7 l2 2) 0 x3) (if (am_gi h7 (am_gr h7 l2 2) x3.toNatClampNeg) = l1 then (fxX7_toldMate_b61 l0 l1 x3 (1 : Int32) h7) else (fxX7_toldMate_b60 l0 l1 x3 h7))))))))))))))))
set_option maxRecDepth 100000 in
theorem sxX7_toldMate {xs : List Int32} (l0 : Option Nat) (l1 : Int32) (l2 : Option Nat) (h : am_H) : am_Sm xs am_ci mX7_toldMate 3 0 0 0 [some (am_R l0), some (am_I l1), some (am_R l2), none, none] [] h (fxX7_toldMate l0 l1 l2 h) := by
  unfold fxX7_toldMate
  refine am_aload_n dX7_toldMate_0 rfl ?_
  refine am_iload_n dX7_toldMate_1 rfl ?_
  refine am_callV (cvj := am_ci) (mtj := mX5_hasNumber) (dj := 2) (nj := 1) (rcj := 0) (rsj := 0) (rc' := 0) (rs' := 0) (ci := 5) (st' := fun a9 => (am_I a9 :: [])) ⟨_, rfl, rfl⟩ [am_I l1] [] dX7_toldMate_2 okX5_hasNumber lk_RX7_54 (fun zA zH zE => txX5_hasNumber l2 l1 h zA zH zE) rfl (fun _ => rfl) (by decide) rfl (Nat.le_of_ble_eq_true rfl) (by decide) (by decide) (fun r1 h2 => ?_)
  refine am_if_ne (tgt := 10) dX7_toldMate_5 (by decide) (fun c12 => ?_) (fun c12 => ?_)
  · refine am_aload_n dX7_toldMate_10 rfl ?_
    refine am_getR dX7_toldMate_11 fk_RX7_60 rfl ?_
    refine am_iload_n dX7_toldMate_14 rfl ?_
    refine am_iald dX7_toldMate_15 ?_
    refine am_istore_n (LL := fun y9 => [some (am_R l0), some (am_I l1), some (am_R l2), some (am_I y9), none]) dX7_toldMate_16 (by decide) (fun _ => rfl) (fun x3 => ?_)
    refine am_iload_n dX7_toldMate_17 rfl ?_
    refine am_iconst (v := 0) dX7_toldMate_18 (by decide) ?_
    refine am_aload_n dX7_toldMate_19 rfl ?_
    refine am_getI dX7_toldMate_20 fk_RX7_21 rfl ?_
    refine am_iconst (v := 1) dX7_toldMate_23 (by decide) ?_
    refine am_isub dX7_toldMate_24 ?_
    refine am_callS (cvj := am_ci) (mtj := mX9_within) (dj := 0) (nj := 3) (rcj := 0) (rsj := 0) (rc' := 0) (rs' := 0) (st' := fun a9 => (am_I a9 :: [])) [am_I x3, am_I (0 : Int32), am_I ((am_gi h2 l0 3) - (1 : Int32))] [] dX7_toldMate_25 okX9_within lk_RX7_43 (fun zA zH zE => txX9_within x3 (0 : Int32) ((am_gi h2 l0 3) - (1 : Int32)) h2 zA zH zE) rfl (fun _ => rfl) (by decide) rfl (Nat.le_of_ble_eq_true rfl) (by decide) (by decide) (fun r4 h5 => ?_)
    refine am_if_eq (tgt := 36) dX7_toldMate_28 (by decide) (fun c11 => ?_) (fun c11 => ?_)
    · refine am_iconst (v := (-1)) dX7_toldMate_36 (by decide) ?_
      exact am_iret dX7_toldMate_37 rfl rfl
    refine am_iload_n dX7_toldMate_31 rfl ?_
    refine am_iload_n dX7_toldMate_32 rfl ?_
    refine am_icmp_ne (tgt := 38) dX7_toldMate_33 (by decide) (fun c10 => ?_) (fun c10 => ?_)
    · refine am_aload_n dX7_toldMate_38 rfl ?_
      refine am_iload_n dX7_toldMate_39 rfl ?_
      refine am_callV (cvj := am_ci) (mtj := mX5_hasNumber) (dj := 2) (nj := 1) (rcj := 0) (rsj := 0) (rc' := 0) (rs' := 0) (ci := 5) (st' := fun a9 => (am_I a9 :: [])) ⟨_, rfl, rfl⟩ [am_I x3] [] dX7_toldMate_40 okX5_hasNumber lk_RX7_54 (fun zA zH zE => txX5_hasNumber l2 x3 h5 zA zH zE) rfl (fun _ => rfl) (by decide) rfl (Nat.le_of_ble_eq_true rfl) (by decide) (by decide) (fun r6 h7 => ?_)
      refine am_if_eq (tgt := 60) dX7_toldMate_43 (by decide) (fun c9 => ?_) (fun c9 => ?_)
      · exact am_weak (sxX7_toldMate_b60 l0 l1 x3 h7) ⟨rfl, ⟨rfl, ⟨rfl, trivial⟩⟩⟩ (Nat.le_refl _) (Nat.le_refl _)
      refine am_aload_n dX7_toldMate_46 rfl ?_
      refine am_getR dX7_toldMate_47 fk_RX7_60 rfl ?_
      refine am_iload_n dX7_toldMate_50 rfl ?_
      refine am_iald dX7_toldMate_51 ?_
      refine am_iload_n dX7_toldMate_52 rfl ?_
      refine am_icmp_ne (tgt := 60) dX7_toldMate_53 (by decide) (fun c8 => ?_) (fun c8 => ?_)
      · exact am_weak (sxX7_toldMate_b60 l0 l1 x3 h7) ⟨rfl, ⟨rfl, ⟨rfl, trivial⟩⟩⟩ (Nat.le_refl _) (Nat.le_refl _)
      refine am_iconst (v := 1) dX7_toldMate_56 (by decide) ?_
      refine am_goto (tgt := 61) dX7_toldMate_57 (by decide) ?_
      exact am_weak (sxX7_toldMate_b61 l0 l1 x3 (1 : Int32) h7) ⟨rfl, ⟨rfl, ⟨rfl, trivial⟩⟩⟩ (Nat.le_refl _) (Nat.le_refl _)
    refine am_iconst (v := (-1)) dX7_toldMate_36 (by decide) ?_
    exact am_iret dX7_toldMate_37 rfl rfl
  refine am_iconst (v := (-1)) dX7_toldMate_8 (by decide) ?_
  exact am_iret dX7_toldMate_9 rfl rfl
theorem txX7_toldMate {xs : List Int32} (l0 : Option Nat) (l1 : Int32) (l2 : Option Nat) (h : am_H) (a : Int32) (h2 : am_H) (e : fxX7_toldMate l0 l1 l2 h = some (a, h2)) : am_Ct xs mX7_toldMate 3 0 0 [am_R l0, am_I l1, am_R l2] h (fun v h3 => v = am_ci a ∧ h3 = h2) := am_meth okX7_toldMate (Nat.le_of_ble_eq_true rfl) rfl (sxX7_toldMate l0 l1 l2 h) e
theorem dX7_seat_0 : am_at cX7_seat 0 (.iconst 0) 1 1 := by decide +kernel
theorem dX7_seat_1 : am_at cX7_seat 1 (.istore_n 2) 1 2 := by decide +kernel
theorem dX7_seat_2 : am_at cX7_seat 2 (.iload_n 2) 1 3 := by decide +kernel
theorem dX7_seat_3 : am_at cX7_seat 3 (.aload_n 0) 1 4 := by decide +kernel
theorem dX7_seat_4 : am_at cX7_seat 4 (.getfield 21) 3 7 := by decide +kernel
theorem dX7_seat_7 : am_at cX7_seat 7 (.if_icmp .ge 21) 3 10 := by decide +kernel
theorem dX7_seat_10 : am_at cX7_seat 10 (.aload_n 0) 1 11 := by decide +kernel
theorem dX7_seat_11 : am_at cX7_seat 11 (.getfield 18) 3 14 := by decide +kernel
theorem dX7_seat_14 : am_at cX7_seat 14 (.iload_n 2) 1 15 := by decide +kernel
theorem dX7_seat_15 : am_at cX7_seat 15 (.aload_n 0) 1 16 := by decide +kernel
theorem dX7_seat_16 : am_at cX7_seat 16 (.iload_n 2) 1 17 := by decide +kernel
theorem dX7_seat_17 : am_at cX7_seat 17 (.aload_n 1) 1 18 := by decide +kernel
theorem dX7_seat_18 : am_at cX7_seat 18 (.invokevirtual 50) 3 21 := by decide +kernel
theorem dX7_seat_21 : am_at cX7_seat 21 (.iastore) 1 22 := by decide +kernel
theorem dX7_seat_22 : am_at cX7_seat 22 (.iinc 2 1) 3 25 := by decide +kernel
theorem dX7_seat_25 : am_at cX7_seat 25 (.goto (-23)) 3 28 := by decide +kernel
theorem dX7_seat_28 : am_at cX7_seat 28 (.return_) 1 29 := by decide +kernel
def fxX7_seat_b2 : Nat → Option Nat → Option Nat → Int32 → am_H → Option (Unit × am_H)
  | 0, _, _, _, _ => none
  | n + 1, l0, l1, l2, h => am_gd (am_ob h l0 7) (if (am_gi h l0 3) ≤ l2 then (some ((), h)) else (am_gd (am_ob h l0 7) (am_gd (am_ob h l0 7) (am_bd (fxX7_toldMate l0 l2 l1 h) (fun r2 h3 => am_gd (am_ix h3 (am_gr h l0 2) 0 l2) (am_lt (am_si h3 (am_gr h l0 2) l2.toNatClampNeg r2) (fun h4 => am_lt (l2 + 1) (fun x5 => fxX7_seat_b2 n l0 l1 x5 h4))))))))
set_option maxRecDepth 100000 in
theorem sxX7_seat_b2 {xs : List Int32} : ∀ (n : Nat) (l0 : Option Nat) (l1 : Option Nat) (l2 : Int32) (h : am_H), am_Sm xs am_cu mX7_seat 4 0 0 2 [some (am_R l0), some (am_R l1), some (am_I l2)] [] h (fxX7_seat_b2 n l0 l1 l2 h) := by
  intro n
  induction n with
  | zero => intros; exact am_none
  | succ n ih =>
    intro l0 l1 l2 h
    rw [fxX7_seat_b2]
    refine am_iload_n dX7_seat_2 rfl ?_
    refine am_aload_n dX7_seat_3 rfl ?_
    refine am_getI dX7_seat_4 fk_RX7_21 rfl ?_
    refine am_icmp_ge (tgt := 28) dX7_seat_7 (by decide) (fun c6 => ?_) (fun c6 => ?_)
    · exact am_vret dX7_seat_28 rfl rfl
    refine am_aload_n dX7_seat_10 rfl ?_
    refine am_getR dX7_seat_11 fk_RX7_18 rfl ?_
    refine am_iload_n dX7_seat_14 rfl ?_
    refine am_aload_n dX7_seat_15 rfl ?_
    refine am_iload_n dX7_seat_16 rfl ?_
    refine am_aload_n dX7_seat_17 rfl ?_
    refine am_callV (cvj := am_ci) (mtj := mX7_toldMate) (dj := 3) (nj := 2) (rcj := 0) (rsj := 0) (rc' := 0) (rs' := 0) (ci := 7) (st' := fun a9 => (am_I a9 :: [am_I l2, am_R (am_gr h l0 2)])) ⟨_, rfl, rfl⟩ [am_I l2, am_R l1] [am_I l2, am_R (am_gr h l0 2)] dX7_seat_18 okX7_toldMate lk_RX7_50 (fun zA zH zE => txX7_toldMate l0 l2 l1 h zA zH zE) rfl (fun _ => rfl) (by decide) rfl (Nat.le_of_ble_eq_true rfl) (by decide) (by decide) (fun r2 h3 => ?_)
    refine am_iast dX7_seat_21 (fun h4 => ?_)
    refine am_iinc (v := 1) (LL := fun y9 => [some (am_R l0), some (am_R l1), some (am_I y9)]) dX7_seat_22 (by decide) rfl (by decide) (fun _ => rfl) (fun x5 => ?_)
    refine am_goto (tgt := 2) dX7_seat_25 (by decide) ?_
    exact am_weak (ih l0 l1 x5 h4) ⟨rfl, ⟨rfl, ⟨rfl, trivial⟩⟩⟩ (Nat.le_refl _) (Nat.le_refl _)
def fxX7_seat (l0 : Option Nat) (l1 : Option Nat) (h : am_H) : Option (Unit × am_H) := am_lt (0 : Int32) (fun x1 => fxX7_seat_b2 am_F l0 l1 x1 h)
set_option maxRecDepth 100000 in
theorem sxX7_seat {xs : List Int32} (l0 : Option Nat) (l1 : Option Nat) (h : am_H) : am_Sm xs am_cu mX7_seat 4 0 0 0 [some (am_R l0), some (am_R l1), none] [] h (fxX7_seat l0 l1 h) := by
  unfold fxX7_seat
  refine am_iconst (v := 0) dX7_seat_0 (by decide) ?_
  refine am_istore_n (LL := fun y9 => [some (am_R l0), some (am_R l1), some (am_I y9)]) dX7_seat_1 (by decide) (fun _ => rfl) (fun x1 => ?_)
  exact am_weak (sxX7_seat_b2 am_F l0 l1 x1 h) ⟨rfl, ⟨rfl, ⟨rfl, trivial⟩⟩⟩ (Nat.le_refl _) (Nat.le_refl _)
theorem txX7_seat {xs : List Int32} (l0 : Option Nat) (l1 : Option Nat) (h : am_H) (a : Unit) (h2 : am_H) (e : fxX7_seat l0 l1 h = some (a, h2)) : am_Ct xs mX7_seat 4 0 0 [am_R l0, am_R l1] h (fun v h3 => v = am_cu a ∧ h3 = h2) := am_meth okX7_seat (Nat.le_of_ble_eq_true rfl) rfl (sxX7_seat l0 l1 h) e
theorem dX7_valueSeated_0 : am_at cX7_valueSeated 0 (.aload_n 0) 1 1 := by decide +kernel
theorem dX7_valueSeated_1 : am_at cX7_valueSeated 1 (.getfield 18) 3 4 := by decide +kernel
theorem dX7_valueSeated_4 : am_at cX7_valueSeated 4 (.iload_n 1) 1 5 := by decide +kernel
theorem dX7_valueSeated_5 : am_at cX7_valueSeated 5 (.iaload) 1 6 := by decide +kernel
theorem dX7_valueSeated_6 : am_at cX7_valueSeated 6 (.istore_n 2) 1 7 := by decide +kernel
theorem dX7_valueSeated_7 : am_at cX7_valueSeated 7 (.iload_n 2) 1 8 := by decide +kernel
theorem dX7_valueSeated_8 : am_at cX7_valueSeated 8 (.iconst (-1)) 1 9 := by decide +kernel
theorem dX7_valueSeated_9 : am_at cX7_valueSeated 9 (.if_icmp .ne 7) 3 12 := by decide +kernel
theorem dX7_valueSeated_12 : am_at cX7_valueSeated 12 (.iconst 0) 1 13 := by decide +kernel
theorem dX7_valueSeated_13 : am_at cX7_valueSeated 13 (.goto 14) 3 16 := by decide +kernel
theorem dX7_valueSeated_16 : am_at cX7_valueSeated 16 (.aload_n 0) 1 17 := by decide +kernel
theorem dX7_valueSeated_17 : am_at cX7_valueSeated 17 (.getfield 9) 3 20 := by decide +kernel
theorem dX7_valueSeated_20 : am_at cX7_valueSeated 20 (.iload_n 1) 1 21 := by decide +kernel
theorem dX7_valueSeated_21 : am_at cX7_valueSeated 21 (.bipush 10) 2 23 := by decide +kernel
theorem dX7_valueSeated_23 : am_at cX7_valueSeated 23 (.imul) 1 24 := by decide +kernel
theorem dX7_valueSeated_24 : am_at cX7_valueSeated 24 (.iload_n 2) 1 25 := by decide +kernel
theorem dX7_valueSeated_25 : am_at cX7_valueSeated 25 (.iadd) 1 26 := by decide +kernel
theorem dX7_valueSeated_26 : am_at cX7_valueSeated 26 (.iaload) 1 27 := by decide +kernel
theorem dX7_valueSeated_27 : am_at cX7_valueSeated 27 (.ireturn) 1 28 := by decide +kernel
def fxX7_valueSeated (l0 : Option Nat) (l1 : Int32) (h : am_H) : Option (Int32 × am_H) := am_gd (am_ob h l0 7) (am_gd (am_ix h (am_gr h l0 2) 0 l1) (am_lt (am_gi h (am_gr h l0 2) l1.toNatClampNeg) (fun x1 => if x1 = (-1 : Int32) then (some ((0 : Int32), h)) else (am_gd (am_ob h l0 7) (am_gd (am_ix h (am_gr h l0 0) 0 ((l1 * (10 : Int32)) + x1)) (some ((am_gi h (am_gr h l0 0) ((l1 * (10 : Int32)) + x1).toNatClampNeg), h)))))))
set_option maxRecDepth 100000 in
theorem sxX7_valueSeated {xs : List Int32} (l0 : Option Nat) (l1 : Int32) (h : am_H) : am_Sm xs am_ci mX7_valueSeated 0 0 0 0 [some (am_R l0), some (am_I l1), none] [] h (fxX7_valueSeated l0 l1 h) := by
  unfold fxX7_valueSeated
  refine am_aload_n dX7_valueSeated_0 rfl ?_
  refine am_getR dX7_valueSeated_1 fk_RX7_18 rfl ?_
  refine am_iload_n dX7_valueSeated_4 rfl ?_
  refine am_iald dX7_valueSeated_5 ?_
  refine am_istore_n (LL := fun y9 => [some (am_R l0), some (am_I l1), some (am_I y9)]) dX7_valueSeated_6 (by decide) (fun _ => rfl) (fun x1 => ?_)
  refine am_iload_n dX7_valueSeated_7 rfl ?_
  refine am_iconst (v := (-1)) dX7_valueSeated_8 (by decide) ?_
  refine am_icmp_ne (tgt := 16) dX7_valueSeated_9 (by decide) (fun c2 => ?_) (fun c2 => ?_)
  · refine am_aload_n dX7_valueSeated_16 rfl ?_
    refine am_getR dX7_valueSeated_17 fk_RX7_9 rfl ?_
    refine am_iload_n dX7_valueSeated_20 rfl ?_
    refine am_bipush (v := 10) dX7_valueSeated_21 (by decide) ?_
    refine am_imul dX7_valueSeated_23 ?_
    refine am_iload_n dX7_valueSeated_24 rfl ?_
    refine am_iadd dX7_valueSeated_25 ?_
    refine am_iald dX7_valueSeated_26 ?_
    exact am_iret dX7_valueSeated_27 rfl rfl
  refine am_iconst (v := 0) dX7_valueSeated_12 (by decide) ?_
  refine am_goto (tgt := 27) dX7_valueSeated_13 (by decide) ?_
  exact am_iret dX7_valueSeated_27 rfl rfl
theorem txX7_valueSeated {xs : List Int32} (l0 : Option Nat) (l1 : Int32) (h : am_H) (a : Int32) (h2 : am_H) (e : fxX7_valueSeated l0 l1 h = some (a, h2)) : am_Ct xs mX7_valueSeated 0 0 0 [am_R l0, am_I l1] h (fun v h3 => v = am_ci a ∧ h3 = h2) := am_meth okX7_valueSeated (Nat.le_of_ble_eq_true rfl) rfl (sxX7_valueSeated l0 l1 h) e
theorem dX7_firstToLeave_0 : am_at cX7_firstToLeave 0 (.iconst 0) 1 1 := by decide +kernel
theorem dX7_firstToLeave_1 : am_at cX7_firstToLeave 1 (.istore_n 1) 1 2 := by decide +kernel
theorem dX7_firstToLeave_2 : am_at cX7_firstToLeave 2 (.iload_n 1) 1 3 := by decide +kernel
theorem dX7_firstToLeave_3 : am_at cX7_firstToLeave 3 (.aload_n 0) 1 4 := by decide +kernel
theorem dX7_firstToLeave_4 : am_at cX7_firstToLeave 4 (.getfield 21) 3 7 := by decide +kernel
theorem dX7_firstToLeave_7 : am_at cX7_firstToLeave 7 (.if_icmp .ge 74) 3 10 := by decide +kernel
theorem dX7_firstToLeave_10 : am_at cX7_firstToLeave 10 (.iload_n 1) 1 11 := by decide +kernel
theorem dX7_firstToLeave_11 : am_at cX7_firstToLeave 11 (.iconst 1) 1 12 := by decide +kernel
theorem dX7_firstToLeave_12 : am_at cX7_firstToLeave 12 (.iadd) 1 13 := by decide +kernel
theorem dX7_firstToLeave_13 : am_at cX7_firstToLeave 13 (.istore_n 2) 1 14 := by decide +kernel
theorem dX7_firstToLeave_14 : am_at cX7_firstToLeave 14 (.iload_n 2) 1 15 := by decide +kernel
theorem dX7_firstToLeave_15 : am_at cX7_firstToLeave 15 (.aload_n 0) 1 16 := by decide +kernel
theorem dX7_firstToLeave_16 : am_at cX7_firstToLeave 16 (.getfield 21) 3 19 := by decide +kernel
theorem dX7_firstToLeave_19 : am_at cX7_firstToLeave 19 (.if_icmp .ge 56) 3 22 := by decide +kernel
theorem dX7_firstToLeave_22 : am_at cX7_firstToLeave 22 (.aload_n 0) 1 23 := by decide +kernel
theorem dX7_firstToLeave_23 : am_at cX7_firstToLeave 23 (.getfield 9) 3 26 := by decide +kernel
theorem dX7_firstToLeave_26 : am_at cX7_firstToLeave 26 (.iload_n 1) 1 27 := by decide +kernel
theorem dX7_firstToLeave_27 : am_at cX7_firstToLeave 27 (.bipush 10) 2 29 := by decide +kernel
theorem dX7_firstToLeave_29 : am_at cX7_firstToLeave 29 (.imul) 1 30 := by decide +kernel
theorem dX7_firstToLeave_30 : am_at cX7_firstToLeave 30 (.iload_n 2) 1 31 := by decide +kernel
theorem dX7_firstToLeave_31 : am_at cX7_firstToLeave 31 (.iadd) 1 32 := by decide +kernel
theorem dX7_firstToLeave_32 : am_at cX7_firstToLeave 32 (.iaload) 1 33 := by decide +kernel
theorem dX7_firstToLeave_33 : am_at cX7_firstToLeave 33 (.istore_n 3) 1 34 := by decide +kernel
theorem dX7_firstToLeave_34 : am_at cX7_firstToLeave 34 (.aload_n 0) 1 35 := by decide +kernel
theorem dX7_firstToLeave_35 : am_at cX7_firstToLeave 35 (.getfield 18) 3 38 := by decide +kernel
theorem dX7_firstToLeave_38 : am_at cX7_firstToLeave 38 (.iload_n 1) 1 39 := by decide +kernel
theorem dX7_firstToLeave_39 : am_at cX7_firstToLeave 39 (.iaload) 1 40 := by decide +kernel
theorem dX7_firstToLeave_40 : am_at cX7_firstToLeave 40 (.iload_n 2) 1 41 := by decide +kernel
theorem dX7_firstToLeave_41 : am_at cX7_firstToLeave 41 (.if_icmp .eq 28) 3 44 := by decide +kernel
theorem dX7_firstToLeave_44 : am_at cX7_firstToLeave 44 (.iload_n 3) 1 45 := by decide +kernel
theorem dX7_firstToLeave_45 : am_at cX7_firstToLeave 45 (.aload_n 0) 1 46 := by decide +kernel
theorem dX7_firstToLeave_46 : am_at cX7_firstToLeave 46 (.iload_n 1) 1 47 := by decide +kernel
theorem dX7_firstToLeave_47 : am_at cX7_firstToLeave 47 (.invokevirtual 63) 3 50 := by decide +kernel
theorem dX7_firstToLeave_50 : am_at cX7_firstToLeave 50 (.if_icmp .le 19) 3 53 := by decide +kernel
theorem dX7_firstToLeave_53 : am_at cX7_firstToLeave 53 (.iload_n 3) 1 54 := by decide +kernel
theorem dX7_firstToLeave_54 : am_at cX7_firstToLeave 54 (.aload_n 0) 1 55 := by decide +kernel
theorem dX7_firstToLeave_55 : am_at cX7_firstToLeave 55 (.iload_n 2) 1 56 := by decide +kernel
theorem dX7_firstToLeave_56 : am_at cX7_firstToLeave 56 (.invokevirtual 63) 3 59 := by decide +kernel
theorem dX7_firstToLeave_59 : am_at cX7_firstToLeave 59 (.if_icmp .le 10) 3 62 := by decide +kernel
theorem dX7_firstToLeave_62 : am_at cX7_firstToLeave 62 (.bipush 100) 2 64 := by decide +kernel
theorem dX7_firstToLeave_64 : am_at cX7_firstToLeave 64 (.iload_n 1) 1 65 := by decide +kernel
theorem dX7_firstToLeave_65 : am_at cX7_firstToLeave 65 (.imul) 1 66 := by decide +kernel
theorem dX7_firstToLeave_66 : am_at cX7_firstToLeave 66 (.iload_n 2) 1 67 := by decide +kernel
theorem dX7_firstToLeave_67 : am_at cX7_firstToLeave 67 (.iadd) 1 68 := by decide +kernel
theorem dX7_firstToLeave_68 : am_at cX7_firstToLeave 68 (.ireturn) 1 69 := by decide +kernel
theorem dX7_firstToLeave_69 : am_at cX7_firstToLeave 69 (.iinc 2 1) 3 72 := by decide +kernel
theorem dX7_firstToLeave_72 : am_at cX7_firstToLeave 72 (.goto (-58)) 3 75 := by decide +kernel
theorem dX7_firstToLeave_75 : am_at cX7_firstToLeave 75 (.iinc 1 1) 3 78 := by decide +kernel
theorem dX7_firstToLeave_78 : am_at cX7_firstToLeave 78 (.goto (-76)) 3 81 := by decide +kernel
theorem dX7_firstToLeave_81 : am_at cX7_firstToLeave 81 (.ldc 67) 2 83 := by decide +kernel
theorem dX7_firstToLeave_83 : am_at cX7_firstToLeave 83 (.ireturn) 1 84 := by decide +kernel
def fxX7_firstToLeave_b69 (k2 : Option Nat → Int32 → am_H → Option (Int32 × am_H)) (k14 : Option Nat → Int32 → Int32 → am_H → Option (Int32 × am_H)) (l0 : Option Nat) (l1 : Int32) (l2 : Int32) (h : am_H) : Option (Int32 × am_H) := am_lt (l2 + 1) (fun x14 => k14 l0 l1 x14 h)
set_option maxRecDepth 100000 in
theorem sxX7_firstToLeave_b69 {xs : List Int32} (k2 : Option Nat → Int32 → am_H → Option (Int32 × am_H)) (hk2 : ∀ (l0 : Option Nat) (l1 : Int32) (h : am_H), am_Sm xs am_ci mX7_firstToLeave 1 0 0 2 [some (am_R l0), some (am_I l1), none, none] [] h (k2 l0 l1 h)) (k14 : Option Nat → Int32 → Int32 → am_H → Option (Int32 × am_H)) (hk14 : ∀ (l0 : Option Nat) (l1 : Int32) (l2 : Int32) (h : am_H), am_Sm xs am_ci mX7_firstToLeave 1 0 0 14 [some (am_R l0), some (am_I l1), some (am_I l2), none] [] h (k14 l0 l1 l2 h)) (l0 : Option Nat) (l1 : Int32) (l2 : Int32) (h : am_H) : am_Sm xs am_ci mX7_firstToLeave 1 0 0 69 [some (am_R l0), some (am_I l1), some (am_I l2), none] [] h (fxX7_firstToLeave_b69 k2 k14 l0 l1 l2 h) := by
  unfold fxX7_firstToLeave_b69
  refine am_iinc (v := 1) (LL := fun y9 => [some (am_R l0), some (am_I l1), some (am_I y9), none]) dX7_firstToLeave_69 (by decide) rfl (by decide) (fun _ => rfl) (fun x14 => ?_)
  refine am_goto (tgt := 14) dX7_firstToLeave_72 (by decide) ?_
  exact am_weak (hk14 l0 l1 x14 h) ⟨rfl, ⟨rfl, ⟨rfl, trivial⟩⟩⟩ (Nat.le_refl _) (Nat.le_refl _)
def fxX7_firstToLeave_b14 (k2 : Option Nat → Int32 → am_H → Option (Int32 × am_H)) : Nat → Option Nat → Int32 → Int32 → am_H → Option (Int32 × am_H)
  | 0, _, _, _, _ => none
  | n + 1, l0, l1, l2, h => am_gd (am_ob h l0 7) (if (am_gi h l0 3) ≤ l2 then (am_lt (l1 + 1) (fun x4 => k2 l0 x4 h)) else (am_gd (am_ob h l0 7) (am_gd (am_ix h (am_gr h l0 0) 0 ((l1 * (10 : Int32)) + l2)) (am_lt (am_gi h (am_gr h l0 0) ((l1 * (10 : Int32)) + l2).toNatClampNeg) (fun x5 => am_gd (am_ob h l0 7) (am_gd (am_ix h (am_gr h l0 2) 0 l1) (if (am_gi h (am_gr h l0 2) l1.toNatClampNeg) = l2 then (fxX7_firstToLeave_b69 k2 (fxX7_firstToLeave_b14 k2 n) l0 l1 l2 h) else (am_gd (am_ob h l0 7) (am_bd (fxX7_valueSeated l0 l1 h) (fun r6 h7 => if x5 ≤ r6 then (fxX7_firstToLeave_b69 k2 (fxX7_firstToLeave_b14 k2 n) l0 l1 l2 h7) else (am_gd (am_ob h7 l0 7) (am_bd (fxX7_valueSeated l0 l2 h7) (fun r8 h9 => if x5 ≤ r8 then (fxX7_firstToLeave_b69 k2 (fxX7_firstToLeave_b14 k2 n) l0 l1 l2 h9) else (some ((((100 : Int32) * l1) + l2), h9)))))))))))))))
set_option maxRecDepth 100000 in
theorem sxX7_firstToLeave_b14 {xs : List Int32} (k2 : Option Nat → Int32 → am_H → Option (Int32 × am_H)) (hk2 : ∀ (l0 : Option Nat) (l1 : Int32) (h : am_H), am_Sm xs am_ci mX7_firstToLeave 1 0 0 2 [some (am_R l0), some (am_I l1), none, none] [] h (k2 l0 l1 h)) : ∀ (n : Nat) (l0 : Option Nat) (l1 : Int32) (l2 : Int32) (h : am_H), am_Sm xs am_ci mX7_firstToLeave 1 0 0 14 [some (am_R l0), some (am_I l1), some (am_I l2), none] [] h (fxX7_firstToLeave_b14 k2 n l0 l1 l2 h) := by
  intro n
  induction n with
  | zero => intros; exact am_none
  | succ n ih =>
    intro l0 l1 l2 h
    rw [fxX7_firstToLeave_b14]
    refine am_iload_n dX7_firstToLeave_14 rfl ?_
    refine am_aload_n dX7_firstToLeave_15 rfl ?_
    refine am_getI dX7_firstToLeave_16 fk_RX7_21 rfl ?_
    refine am_icmp_ge (tgt := 75) dX7_firstToLeave_19 (by decide) (fun c13 => ?_) (fun c13 => ?_)
    · refine am_iinc (v := 1) (LL := fun y9 => [some (am_R l0), some (am_I y9), some (am_I l2), none]) dX7_firstToLeave_75 (by decide) rfl (by decide) (fun _ => rfl) (fun x4 => ?_)
      refine am_goto (tgt := 2) dX7_firstToLeave_78 (by decide) ?_
      exact am_weak (hk2 l0 x4 h) ⟨rfl, ⟨rfl, trivial⟩⟩ (Nat.le_refl _) (Nat.le_refl _)
    refine am_aload_n dX7_firstToLeave_22 rfl ?_
    refine am_getR dX7_firstToLeave_23 fk_RX7_9 rfl ?_
    refine am_iload_n dX7_firstToLeave_26 rfl ?_
    refine am_bipush (v := 10) dX7_firstToLeave_27 (by decide) ?_
    refine am_imul dX7_firstToLeave_29 ?_
    refine am_iload_n dX7_firstToLeave_30 rfl ?_
    refine am_iadd dX7_firstToLeave_31 ?_
    refine am_iald dX7_firstToLeave_32 ?_
    refine am_istore_n (LL := fun y9 => [some (am_R l0), some (am_I l1), some (am_I l2), some (am_I y9)]) dX7_firstToLeave_33 (by decide) (fun _ => rfl) (fun x5 => ?_)
    refine am_aload_n dX7_firstToLeave_34 rfl ?_
    refine am_getR dX7_firstToLeave_35 fk_RX7_18 rfl ?_
    refine am_iload_n dX7_firstToLeave_38 rfl ?_
    refine am_iald dX7_firstToLeave_39 ?_
    refine am_iload_n dX7_firstToLeave_40 rfl ?_
    refine am_icmp_eq (tgt := 69) dX7_firstToLeave_41 (by decide) (fun c12 => ?_) (fun c12 => ?_)
    · exact am_weak (sxX7_firstToLeave_b69 k2 hk2 (fxX7_firstToLeave_b14 k2 n) ih l0 l1 l2 h) ⟨rfl, ⟨rfl, ⟨rfl, trivial⟩⟩⟩ (Nat.le_refl _) (Nat.le_refl _)
    refine am_iload_n dX7_firstToLeave_44 rfl ?_
    refine am_aload_n dX7_firstToLeave_45 rfl ?_
    refine am_iload_n dX7_firstToLeave_46 rfl ?_
    refine am_callV (cvj := am_ci) (mtj := mX7_valueSeated) (dj := 0) (nj := 1) (rcj := 0) (rsj := 0) (rc' := 0) (rs' := 0) (ci := 7) (st' := fun a9 => (am_I a9 :: [am_I x5])) ⟨_, rfl, rfl⟩ [am_I l1] [am_I x5] dX7_firstToLeave_47 okX7_valueSeated lk_RX7_63 (fun zA zH zE => txX7_valueSeated l0 l1 h zA zH zE) rfl (fun _ => rfl) (by decide) rfl (Nat.le_of_ble_eq_true rfl) (by decide) (by decide) (fun r6 h7 => ?_)
    refine am_icmp_le (tgt := 69) dX7_firstToLeave_50 (by decide) (fun c11 => ?_) (fun c11 => ?_)
    · exact am_weak (sxX7_firstToLeave_b69 k2 hk2 (fxX7_firstToLeave_b14 k2 n) ih l0 l1 l2 h7) ⟨rfl, ⟨rfl, ⟨rfl, trivial⟩⟩⟩ (Nat.le_refl _) (Nat.le_refl _)
    refine am_iload_n dX7_firstToLeave_53 rfl ?_
    refine am_aload_n dX7_firstToLeave_54 rfl ?_
    refine am_iload_n dX7_firstToLeave_55 rfl ?_
    refine am_callV (cvj := am_ci) (mtj := mX7_valueSeated) (dj := 0) (nj := 1) (rcj := 0) (rsj := 0) (rc' := 0) (rs' := 0) (ci := 7) (st' := fun a9 => (am_I a9 :: [am_I x5])) ⟨_, rfl, rfl⟩ [am_I l2] [am_I x5] dX7_firstToLeave_56 okX7_valueSeated lk_RX7_63 (fun zA zH zE => txX7_valueSeated l0 l2 h7 zA zH zE) rfl (fun _ => rfl) (by decide) rfl (Nat.le_of_ble_eq_true rfl) (by decide) (by decide) (fun r8 h9 => ?_)
    refine am_icmp_le (tgt := 69) dX7_firstToLeave_59 (by decide) (fun c10 => ?_) (fun c10 => ?_)
    · exact am_weak (sxX7_firstToLeave_b69 k2 hk2 (fxX7_firstToLeave_b14 k2 n) ih l0 l1 l2 h9) ⟨rfl, ⟨rfl, ⟨rfl, trivial⟩⟩⟩ (Nat.le_refl _) (Nat.le_refl _)
    refine am_bipush (v := 100) dX7_firstToLeave_62 (by decide) ?_
    refine am_iload_n dX7_firstToLeave_64 rfl ?_
    refine am_imul dX7_firstToLeave_65 ?_
    refine am_iload_n dX7_firstToLeave_66 rfl ?_
    refine am_iadd dX7_firstToLeave_67 ?_
    exact am_iret dX7_firstToLeave_68 rfl rfl
def fxX7_firstToLeave_b2 : Nat → Option Nat → Int32 → am_H → Option (Int32 × am_H)
  | 0, _, _, _ => none
  | n + 1, l0, l1, h => am_gd (am_ob h l0 7) (if (am_gi h l0 3) ≤ l1 then (some ((-1000000005 : Int32), h)) else (am_lt (l1 + (1 : Int32)) (fun x2 => fxX7_firstToLeave_b14 (fxX7_firstToLeave_b2 n) am_F l0 l1 x2 h)))
set_option maxRecDepth 100000 in
theorem sxX7_firstToLeave_b2 {xs : List Int32} : ∀ (n : Nat) (l0 : Option Nat) (l1 : Int32) (h : am_H), am_Sm xs am_ci mX7_firstToLeave 1 0 0 2 [some (am_R l0), some (am_I l1), none, none] [] h (fxX7_firstToLeave_b2 n l0 l1 h) := by
  intro n
  induction n with
  | zero => intros; exact am_none
  | succ n ih =>
    intro l0 l1 h
    rw [fxX7_firstToLeave_b2]
    refine am_iload_n dX7_firstToLeave_2 rfl ?_
    refine am_aload_n dX7_firstToLeave_3 rfl ?_
    refine am_getI dX7_firstToLeave_4 fk_RX7_21 rfl ?_
    refine am_icmp_ge (tgt := 81) dX7_firstToLeave_7 (by decide) (fun c3 => ?_) (fun c3 => ?_)
    · refine am_ldc (v := (-1000000005)) dX7_firstToLeave_81 wd526 ?_
      exact am_iret dX7_firstToLeave_83 rfl rfl
    refine am_iload_n dX7_firstToLeave_10 rfl ?_
    refine am_iconst (v := 1) dX7_firstToLeave_11 (by decide) ?_
    refine am_iadd dX7_firstToLeave_12 ?_
    refine am_istore_n (LL := fun y9 => [some (am_R l0), some (am_I l1), some (am_I y9), none]) dX7_firstToLeave_13 (by decide) (fun _ => rfl) (fun x2 => ?_)
    exact am_weak (sxX7_firstToLeave_b14 (fxX7_firstToLeave_b2 n) ih am_F l0 l1 x2 h) ⟨rfl, ⟨rfl, ⟨rfl, trivial⟩⟩⟩ (Nat.le_refl _) (Nat.le_refl _)
def fxX7_firstToLeave (l0 : Option Nat) (h : am_H) : Option (Int32 × am_H) := am_lt (0 : Int32) (fun x1 => fxX7_firstToLeave_b2 am_F l0 x1 h)
set_option maxRecDepth 100000 in
theorem sxX7_firstToLeave {xs : List Int32} (l0 : Option Nat) (h : am_H) : am_Sm xs am_ci mX7_firstToLeave 1 0 0 0 [some (am_R l0), none, none, none] [] h (fxX7_firstToLeave l0 h) := by
  unfold fxX7_firstToLeave
  refine am_iconst (v := 0) dX7_firstToLeave_0 (by decide) ?_
  refine am_istore_n (LL := fun y9 => [some (am_R l0), some (am_I y9), none, none]) dX7_firstToLeave_1 (by decide) (fun _ => rfl) (fun x1 => ?_)
  exact am_weak (sxX7_firstToLeave_b2 am_F l0 x1 h) ⟨rfl, ⟨rfl, trivial⟩⟩ (Nat.le_refl _) (Nat.le_refl _)
theorem txX7_firstToLeave {xs : List Int32} (l0 : Option Nat) (h : am_H) (a : Int32) (h2 : am_H) (e : fxX7_firstToLeave l0 h = some (a, h2)) : am_Ct xs mX7_firstToLeave 1 0 0 [am_R l0] h (fun v h3 => v = am_ci a ∧ h3 = h2) := am_meth okX7_firstToLeave (Nat.le_of_ble_eq_true rfl) rfl (sxX7_firstToLeave l0 h) e
theorem dX8_addBytes_0 : am_at cX8_addBytes 0 (.bipush 24) 2 2 := by decide +kernel
theorem dX8_addBytes_2 : am_at cX8_addBytes 2 (.istore_n 2) 1 3 := by decide +kernel
theorem dX8_addBytes_3 : am_at cX8_addBytes 3 (.iload_n 2) 1 4 := by decide +kernel
theorem dX8_addBytes_4 : am_at cX8_addBytes 4 (.ifCond .lt 44) 3 7 := by decide +kernel
theorem dX8_addBytes_7 : am_at cX8_addBytes 7 (.aload_n 0) 1 8 := by decide +kernel
theorem dX8_addBytes_8 : am_at cX8_addBytes 8 (.getfield 15) 3 11 := by decide +kernel
theorem dX8_addBytes_11 : am_at cX8_addBytes 11 (.bipush 96) 2 13 := by decide +kernel
theorem dX8_addBytes_13 : am_at cX8_addBytes 13 (.if_icmp .ge 35) 3 16 := by decide +kernel
theorem dX8_addBytes_16 : am_at cX8_addBytes 16 (.aload_n 0) 1 17 := by decide +kernel
theorem dX8_addBytes_17 : am_at cX8_addBytes 17 (.getfield 9) 3 20 := by decide +kernel
theorem dX8_addBytes_20 : am_at cX8_addBytes 20 (.aload_n 0) 1 21 := by decide +kernel
theorem dX8_addBytes_21 : am_at cX8_addBytes 21 (.getfield 15) 3 24 := by decide +kernel
theorem dX8_addBytes_24 : am_at cX8_addBytes 24 (.iload_n 1) 1 25 := by decide +kernel
theorem dX8_addBytes_25 : am_at cX8_addBytes 25 (.iload_n 2) 1 26 := by decide +kernel
theorem dX8_addBytes_26 : am_at cX8_addBytes 26 (.iushr) 1 27 := by decide +kernel
theorem dX8_addBytes_27 : am_at cX8_addBytes 27 (.sipush 255) 3 30 := by decide +kernel
theorem dX8_addBytes_30 : am_at cX8_addBytes 30 (.iand) 1 31 := by decide +kernel
theorem dX8_addBytes_31 : am_at cX8_addBytes 31 (.iastore) 1 32 := by decide +kernel
theorem dX8_addBytes_32 : am_at cX8_addBytes 32 (.aload_n 0) 1 33 := by decide +kernel
theorem dX8_addBytes_33 : am_at cX8_addBytes 33 (.dup) 1 34 := by decide +kernel
theorem dX8_addBytes_34 : am_at cX8_addBytes 34 (.getfield 15) 3 37 := by decide +kernel
theorem dX8_addBytes_37 : am_at cX8_addBytes 37 (.iconst 1) 1 38 := by decide +kernel
theorem dX8_addBytes_38 : am_at cX8_addBytes 38 (.iadd) 1 39 := by decide +kernel
theorem dX8_addBytes_39 : am_at cX8_addBytes 39 (.putfield 15) 3 42 := by decide +kernel
theorem dX8_addBytes_42 : am_at cX8_addBytes 42 (.iinc 2 (-8)) 3 45 := by decide +kernel
theorem dX8_addBytes_45 : am_at cX8_addBytes 45 (.goto (-42)) 3 48 := by decide +kernel
theorem dX8_addBytes_48 : am_at cX8_addBytes 48 (.return_) 1 49 := by decide +kernel
def fxX8_addBytes_b3 : Nat → Option Nat → Int32 → Int32 → am_H → Option (Unit × am_H)
  | 0, _, _, _, _ => none
  | n + 1, l0, l1, l2, h => if l2 < 0 then (some ((), h)) else (am_gd (am_ob h l0 8) (if (96 : Int32) ≤ (am_gi h l0 1) then (some ((), h)) else (am_gd (am_ob h l0 8) (am_gd (am_ob h l0 8) (am_gd (am_ix h (am_gr h l0 0) 0 (am_gi h l0 1)) (am_lt (am_si h (am_gr h l0 0) (am_gi h l0 1).toNatClampNeg ((am_ush l1 l2) &&& (255 : Int32))) (fun h2 => am_gd (am_ob h2 l0 8) (am_gd (am_ob h2 l0 8) (am_lt (am_si h2 l0 1 ((am_gi h2 l0 1) + (1 : Int32))) (fun h3 => am_lt (l2 + (-8)) (fun x4 => fxX8_addBytes_b3 n l0 l1 x4 h3)))))))))))
set_option maxRecDepth 100000 in
theorem sxX8_addBytes_b3 {xs : List Int32} : ∀ (n : Nat) (l0 : Option Nat) (l1 : Int32) (l2 : Int32) (h : am_H), am_Sm xs am_cu mX8_addBytes 0 0 0 3 [some (am_R l0), some (am_I l1), some (am_I l2)] [] h (fxX8_addBytes_b3 n l0 l1 l2 h) := by
  intro n
  induction n with
  | zero => intros; exact am_none
  | succ n ih =>
    intro l0 l1 l2 h
    rw [fxX8_addBytes_b3]
    refine am_iload_n dX8_addBytes_3 rfl ?_
    refine am_if_lt (tgt := 48) dX8_addBytes_4 (by decide) (fun c6 => ?_) (fun c6 => ?_)
    · exact am_vret dX8_addBytes_48 rfl rfl
    refine am_aload_n dX8_addBytes_7 rfl ?_
    refine am_getI dX8_addBytes_8 fk_RX8_15 rfl ?_
    refine am_bipush (v := 96) dX8_addBytes_11 (by decide) ?_
    refine am_icmp_ge (tgt := 48) dX8_addBytes_13 (by decide) (fun c5 => ?_) (fun c5 => ?_)
    · exact am_vret dX8_addBytes_48 rfl rfl
    refine am_aload_n dX8_addBytes_16 rfl ?_
    refine am_getR dX8_addBytes_17 fk_RX8_9 rfl ?_
    refine am_aload_n dX8_addBytes_20 rfl ?_
    refine am_getI dX8_addBytes_21 fk_RX8_15 rfl ?_
    refine am_iload_n dX8_addBytes_24 rfl ?_
    refine am_iload_n dX8_addBytes_25 rfl ?_
    refine am_iushr dX8_addBytes_26 ?_
    refine am_sipush (v := 255) dX8_addBytes_27 (by decide) ?_
    refine am_iand dX8_addBytes_30 ?_
    refine am_iast dX8_addBytes_31 (fun h2 => ?_)
    refine am_aload_n dX8_addBytes_32 rfl ?_
    refine am_dup dX8_addBytes_33 ?_
    refine am_getI dX8_addBytes_34 fk_RX8_15 rfl ?_
    refine am_iconst (v := 1) dX8_addBytes_37 (by decide) ?_
    refine am_iadd dX8_addBytes_38 ?_
    refine am_putI dX8_addBytes_39 fk_RX8_15 ⟨_, rfl, Or.inl rfl⟩ rfl (fun h3 => ?_)
    refine am_iinc (v := (-8)) (LL := fun y9 => [some (am_R l0), some (am_I l1), some (am_I y9)]) dX8_addBytes_42 (by decide) rfl (by decide) (fun _ => rfl) (fun x4 => ?_)
    refine am_goto (tgt := 3) dX8_addBytes_45 (by decide) ?_
    exact am_weak (ih l0 l1 x4 h3) ⟨rfl, ⟨rfl, ⟨rfl, trivial⟩⟩⟩ (Nat.le_refl _) (Nat.le_refl _)
def fxX8_addBytes (l0 : Option Nat) (l1 : Int32) (h : am_H) : Option (Unit × am_H) := am_lt (24 : Int32) (fun x1 => fxX8_addBytes_b3 am_F l0 l1 x1 h)
set_option maxRecDepth 100000 in
theorem sxX8_addBytes {xs : List Int32} (l0 : Option Nat) (l1 : Int32) (h : am_H) : am_Sm xs am_cu mX8_addBytes 0 0 0 0 [some (am_R l0), some (am_I l1), none] [] h (fxX8_addBytes l0 l1 h) := by
  unfold fxX8_addBytes
  refine am_bipush (v := 24) dX8_addBytes_0 (by decide) ?_
  refine am_istore_n (LL := fun y9 => [some (am_R l0), some (am_I l1), some (am_I y9)]) dX8_addBytes_2 (by decide) (fun _ => rfl) (fun x1 => ?_)
  exact am_weak (sxX8_addBytes_b3 am_F l0 l1 x1 h) ⟨rfl, ⟨rfl, ⟨rfl, trivial⟩⟩⟩ (Nat.le_refl _) (Nat.le_refl _)
theorem txX8_addBytes {xs : List Int32} (l0 : Option Nat) (l1 : Int32) (h : am_H) (a : Unit) (h2 : am_H) (e : fxX8_addBytes l0 l1 h = some (a, h2)) : am_Ct xs mX8_addBytes 0 0 0 [am_R l0, am_I l1] h (fun v h3 => v = am_cu a ∧ h3 = h2) := am_meth okX8_addBytes (Nat.le_of_ble_eq_true rfl) rfl (sxX8_addBytes l0 l1 h) e
theorem dX8_begin_0 : am_at cX8_begin 0 (.aload_n 0) 1 1 := by decide +kernel
theorem dX8_begin_1 : am_at cX8_begin 1 (.aload_n 1) 1 2 := by decide +kernel
theorem dX8_begin_2 : am_at cX8_begin 2 (.putfield 22) 3 5 := by decide +kernel
theorem dX8_begin_5 : am_at cX8_begin 5 (.aload_n 0) 1 6 := by decide +kernel
theorem dX8_begin_6 : am_at cX8_begin 6 (.iconst (-1)) 1 7 := by decide +kernel
theorem dX8_begin_7 : am_at cX8_begin 7 (.putfield 26) 3 10 := by decide +kernel
theorem dX8_begin_10 : am_at cX8_begin 10 (.aload_n 0) 1 11 := by decide +kernel
theorem dX8_begin_11 : am_at cX8_begin 11 (.iconst 0) 1 12 := by decide +kernel
theorem dX8_begin_12 : am_at cX8_begin 12 (.putfield 29) 3 15 := by decide +kernel
theorem dX8_begin_15 : am_at cX8_begin 15 (.aload_n 0) 1 16 := by decide +kernel
theorem dX8_begin_16 : am_at cX8_begin 16 (.iconst 0) 1 17 := by decide +kernel
theorem dX8_begin_17 : am_at cX8_begin 17 (.putfield 32) 3 20 := by decide +kernel
theorem dX8_begin_20 : am_at cX8_begin 20 (.aload_n 0) 1 21 := by decide +kernel
theorem dX8_begin_21 : am_at cX8_begin 21 (.iconst 0) 1 22 := by decide +kernel
theorem dX8_begin_22 : am_at cX8_begin 22 (.putfield 35) 3 25 := by decide +kernel
theorem dX8_begin_25 : am_at cX8_begin 25 (.return_) 1 26 := by decide +kernel
def fxX8_begin (l0 : Option Nat) (l1 : Option Nat) (h : am_H) : Option (Unit × am_H) := am_gd (am_ob h l0 8) (am_lt (am_sr h l0 2 l1) (fun h1 => am_gd (am_ob h1 l0 8) (am_lt (am_si h1 l0 3 (-1 : Int32)) (fun h2 => am_gd (am_ob h2 l0 8) (am_lt (am_si h2 l0 4 (0 : Int32)) (fun h3 => am_gd (am_ob h3 l0 8) (am_lt (am_si h3 l0 5 (0 : Int32)) (fun h4 => am_gd (am_ob h4 l0 8) (am_lt (am_si h4 l0 6 (0 : Int32)) (fun h5 => some ((), h5)))))))))))
set_option maxRecDepth 100000 in
theorem sxX8_begin {xs : List Int32} (l0 : Option Nat) (l1 : Option Nat) (h : am_H) : am_Sm xs am_cu mX8_begin 0 0 0 0 [some (am_R l0), some (am_R l1)] [] h (fxX8_begin l0 l1 h) := by
  unfold fxX8_begin
  refine am_aload_n dX8_begin_0 rfl ?_
  refine am_aload_n dX8_begin_1 rfl ?_
  refine am_putR dX8_begin_2 fk_RX8_22 ⟨_, rfl, Or.inl rfl⟩ rfl (fun h1 => ?_)
  refine am_aload_n dX8_begin_5 rfl ?_
  refine am_iconst (v := (-1)) dX8_begin_6 (by decide) ?_
  refine am_putI dX8_begin_7 fk_RX8_26 ⟨_, rfl, Or.inl rfl⟩ rfl (fun h2 => ?_)
  refine am_aload_n dX8_begin_10 rfl ?_
  refine am_iconst (v := 0) dX8_begin_11 (by decide) ?_
  refine am_putI dX8_begin_12 fk_RX8_29 ⟨_, rfl, Or.inl rfl⟩ rfl (fun h3 => ?_)
  refine am_aload_n dX8_begin_15 rfl ?_
  refine am_iconst (v := 0) dX8_begin_16 (by decide) ?_
  refine am_putI dX8_begin_17 fk_RX8_32 ⟨_, rfl, Or.inl rfl⟩ rfl (fun h4 => ?_)
  refine am_aload_n dX8_begin_20 rfl ?_
  refine am_iconst (v := 0) dX8_begin_21 (by decide) ?_
  refine am_putI dX8_begin_22 fk_RX8_35 ⟨_, rfl, Or.inl rfl⟩ rfl (fun h5 => ?_)
  exact am_vret dX8_begin_25 rfl rfl
theorem txX8_begin {xs : List Int32} (l0 : Option Nat) (l1 : Option Nat) (h : am_H) (a : Unit) (h2 : am_H) (e : fxX8_begin l0 l1 h = some (a, h2)) : am_Ct xs mX8_begin 0 0 0 [am_R l0, am_R l1] h (fun v h3 => v = am_cu a ∧ h3 = h2) := am_meth okX8_begin (Nat.le_of_ble_eq_true rfl) rfl (sxX8_begin l0 l1 h) e
theorem dX8_refuse_0 : am_at cX8_refuse 0 (.aload_n 0) 1 1 := by decide +kernel
theorem dX8_refuse_1 : am_at cX8_refuse 1 (.getfield 26) 3 4 := by decide +kernel
theorem dX8_refuse_4 : am_at cX8_refuse 4 (.iconst (-1)) 1 5 := by decide +kernel
theorem dX8_refuse_5 : am_at cX8_refuse 5 (.if_icmp .ne 11) 3 8 := by decide +kernel
theorem dX8_refuse_8 : am_at cX8_refuse 8 (.aload_n 0) 1 9 := by decide +kernel
theorem dX8_refuse_9 : am_at cX8_refuse 9 (.aload_n 0) 1 10 := by decide +kernel
theorem dX8_refuse_10 : am_at cX8_refuse 10 (.getfield 32) 3 13 := by decide +kernel
theorem dX8_refuse_13 : am_at cX8_refuse 13 (.putfield 26) 3 16 := by decide +kernel
theorem dX8_refuse_16 : am_at cX8_refuse 16 (.return_) 1 17 := by decide +kernel
def fxX8_refuse (l0 : Option Nat) (h : am_H) : Option (Unit × am_H) := am_gd (am_ob h l0 8) (if (am_gi h l0 3) = (-1 : Int32) then (am_gd (am_ob h l0 8) (am_gd (am_ob h l0 8) (am_lt (am_si h l0 3 (am_gi h l0 5)) (fun h1 => some ((), h1))))) else (some ((), h)))
set_option maxRecDepth 100000 in
theorem sxX8_refuse {xs : List Int32} (l0 : Option Nat) (h : am_H) : am_Sm xs am_cu mX8_refuse 0 0 0 0 [some (am_R l0)] [] h (fxX8_refuse l0 h) := by
  unfold fxX8_refuse
  refine am_aload_n dX8_refuse_0 rfl ?_
  refine am_getI dX8_refuse_1 fk_RX8_26 rfl ?_
  refine am_iconst (v := (-1)) dX8_refuse_4 (by decide) ?_
  refine am_icmp_ne (tgt := 16) dX8_refuse_5 (by decide) (fun c2 => ?_) (fun c2 => ?_)
  · exact am_vret dX8_refuse_16 rfl rfl
  refine am_aload_n dX8_refuse_8 rfl ?_
  refine am_aload_n dX8_refuse_9 rfl ?_
  refine am_getI dX8_refuse_10 fk_RX8_32 rfl ?_
  refine am_putI dX8_refuse_13 fk_RX8_26 ⟨_, rfl, Or.inl rfl⟩ rfl (fun h1 => ?_)
  exact am_vret dX8_refuse_16 rfl rfl
theorem txX8_refuse {xs : List Int32} (l0 : Option Nat) (h : am_H) (a : Unit) (h2 : am_H) (e : fxX8_refuse l0 h = some (a, h2)) : am_Ct xs mX8_refuse 0 0 0 [am_R l0] h (fun v h3 => v = am_cu a ∧ h3 = h2) := am_meth okX8_refuse (Nat.le_of_ble_eq_true rfl) rfl (sxX8_refuse l0 h) e
theorem dX8_sortAt_0 : am_at cX8_sortAt 0 (.iload_n 1) 1 1 := by decide +kernel
theorem dX8_sortAt_1 : am_at cX8_sortAt 1 (.ifCond .lt 11) 3 4 := by decide +kernel
theorem dX8_sortAt_4 : am_at cX8_sortAt 4 (.iload_n 1) 1 5 := by decide +kernel
theorem dX8_sortAt_5 : am_at cX8_sortAt 5 (.aload_n 0) 1 6 := by decide +kernel
theorem dX8_sortAt_6 : am_at cX8_sortAt 6 (.getfield 15) 3 9 := by decide +kernel
theorem dX8_sortAt_9 : am_at cX8_sortAt 9 (.if_icmp .lt 5) 3 12 := by decide +kernel
theorem dX8_sortAt_12 : am_at cX8_sortAt 12 (.iconst 0) 1 13 := by decide +kernel
theorem dX8_sortAt_13 : am_at cX8_sortAt 13 (.ireturn) 1 14 := by decide +kernel
theorem dX8_sortAt_14 : am_at cX8_sortAt 14 (.aload_n 0) 1 15 := by decide +kernel
theorem dX8_sortAt_15 : am_at cX8_sortAt 15 (.getfield 9) 3 18 := by decide +kernel
theorem dX8_sortAt_18 : am_at cX8_sortAt 18 (.iload_n 1) 1 19 := by decide +kernel
theorem dX8_sortAt_19 : am_at cX8_sortAt 19 (.iaload) 1 20 := by decide +kernel
theorem dX8_sortAt_20 : am_at cX8_sortAt 20 (.istore_n 2) 1 21 := by decide +kernel
theorem dX8_sortAt_21 : am_at cX8_sortAt 21 (.iload_n 2) 1 22 := by decide +kernel
theorem dX8_sortAt_22 : am_at cX8_sortAt 22 (.bipush 97) 2 24 := by decide +kernel
theorem dX8_sortAt_24 : am_at cX8_sortAt 24 (.if_icmp .lt 11) 3 27 := by decide +kernel
theorem dX8_sortAt_27 : am_at cX8_sortAt 27 (.iload_n 2) 1 28 := by decide +kernel
theorem dX8_sortAt_28 : am_at cX8_sortAt 28 (.bipush 122) 2 30 := by decide +kernel
theorem dX8_sortAt_30 : am_at cX8_sortAt 30 (.if_icmp .gt 5) 3 33 := by decide +kernel
theorem dX8_sortAt_33 : am_at cX8_sortAt 33 (.iconst 1) 1 34 := by decide +kernel
theorem dX8_sortAt_34 : am_at cX8_sortAt 34 (.ireturn) 1 35 := by decide +kernel
theorem dX8_sortAt_35 : am_at cX8_sortAt 35 (.iload_n 2) 1 36 := by decide +kernel
theorem dX8_sortAt_36 : am_at cX8_sortAt 36 (.bipush 48) 2 38 := by decide +kernel
theorem dX8_sortAt_38 : am_at cX8_sortAt 38 (.if_icmp .lt 13) 3 41 := by decide +kernel
theorem dX8_sortAt_41 : am_at cX8_sortAt 41 (.iload_n 2) 1 42 := by decide +kernel
theorem dX8_sortAt_42 : am_at cX8_sortAt 42 (.bipush 57) 2 44 := by decide +kernel
theorem dX8_sortAt_44 : am_at cX8_sortAt 44 (.if_icmp .gt 7) 3 47 := by decide +kernel
theorem dX8_sortAt_47 : am_at cX8_sortAt 47 (.iconst 2) 1 48 := by decide +kernel
theorem dX8_sortAt_48 : am_at cX8_sortAt 48 (.goto 4) 3 51 := by decide +kernel
theorem dX8_sortAt_51 : am_at cX8_sortAt 51 (.iconst 3) 1 52 := by decide +kernel
theorem dX8_sortAt_52 : am_at cX8_sortAt 52 (.ireturn) 1 53 := by decide +kernel
def fxX8_sortAt_b35 (l2 : Int32) (h : am_H) : Option (Int32 × am_H) := if l2 < (48 : Int32) then (some ((3 : Int32), h)) else (if (57 : Int32) < l2 then (some ((3 : Int32), h)) else (some ((2 : Int32), h)))
set_option maxRecDepth 100000 in
theorem sxX8_sortAt_b35 {xs : List Int32} (l2 : Int32) (h : am_H) : am_Sm xs am_ci mX8_sortAt 0 0 0 35 [none, none, some (am_I l2)] [] h (fxX8_sortAt_b35 l2 h) := by
  unfold fxX8_sortAt_b35
  refine am_iload_n dX8_sortAt_35 rfl ?_
  refine am_bipush (v := 48) dX8_sortAt_36 (by decide) ?_
  refine am_icmp_lt (tgt := 51) dX8_sortAt_38 (by decide) (fun c7 => ?_) (fun c7 => ?_)
  · refine am_iconst (v := 3) dX8_sortAt_51 (by decide) ?_
    exact am_iret dX8_sortAt_52 rfl rfl
  refine am_iload_n dX8_sortAt_41 rfl ?_
  refine am_bipush (v := 57) dX8_sortAt_42 (by decide) ?_
  refine am_icmp_gt (tgt := 51) dX8_sortAt_44 (by decide) (fun c6 => ?_) (fun c6 => ?_)
  · refine am_iconst (v := 3) dX8_sortAt_51 (by decide) ?_
    exact am_iret dX8_sortAt_52 rfl rfl
  refine am_iconst (v := 2) dX8_sortAt_47 (by decide) ?_
  refine am_goto (tgt := 52) dX8_sortAt_48 (by decide) ?_
  exact am_iret dX8_sortAt_52 rfl rfl
def fxX8_sortAt (l0 : Option Nat) (l1 : Int32) (h : am_H) : Option (Int32 × am_H) := if l1 < 0 then (some ((0 : Int32), h)) else (am_gd (am_ob h l0 8) (if l1 < (am_gi h l0 1) then (am_gd (am_ob h l0 8) (am_gd (am_ix h (am_gr h l0 0) 0 l1) (am_lt (am_gi h (am_gr h l0 0) l1.toNatClampNeg) (fun x1 => if x1 < (97 : Int32) then (fxX8_sortAt_b35 x1 h) else (if (122 : Int32) < x1 then (fxX8_sortAt_b35 x1 h) else (some ((1 : Int32), h))))))) else (some ((0 : Int32), h))))
set_option maxRecDepth 100000 in
theorem sxX8_sortAt {xs : List Int32} (l0 : Option Nat) (l1 : Int32) (h : am_H) : am_Sm xs am_ci mX8_sortAt 0 0 0 0 [some (am_R l0), some (am_I l1), none] [] h (fxX8_sortAt l0 l1 h) := by
  unfold fxX8_sortAt
  refine am_iload_n dX8_sortAt_0 rfl ?_
  refine am_if_lt (tgt := 12) dX8_sortAt_1 (by decide) (fun c5 => ?_) (fun c5 => ?_)
  · refine am_iconst (v := 0) dX8_sortAt_12 (by decide) ?_
    exact am_iret dX8_sortAt_13 rfl rfl
  refine am_iload_n dX8_sortAt_4 rfl ?_
  refine am_aload_n dX8_sortAt_5 rfl ?_
  refine am_getI dX8_sortAt_6 fk_RX8_15 rfl ?_
  refine am_icmp_lt (tgt := 14) dX8_sortAt_9 (by decide) (fun c4 => ?_) (fun c4 => ?_)
  · refine am_aload_n dX8_sortAt_14 rfl ?_
    refine am_getR dX8_sortAt_15 fk_RX8_9 rfl ?_
    refine am_iload_n dX8_sortAt_18 rfl ?_
    refine am_iald dX8_sortAt_19 ?_
    refine am_istore_n (LL := fun y9 => [some (am_R l0), some (am_I l1), some (am_I y9)]) dX8_sortAt_20 (by decide) (fun _ => rfl) (fun x1 => ?_)
    refine am_iload_n dX8_sortAt_21 rfl ?_
    refine am_bipush (v := 97) dX8_sortAt_22 (by decide) ?_
    refine am_icmp_lt (tgt := 35) dX8_sortAt_24 (by decide) (fun c3 => ?_) (fun c3 => ?_)
    · exact am_weak (sxX8_sortAt_b35 x1 h) ⟨rfl, trivial⟩ (Nat.le_refl _) (Nat.le_refl _)
    refine am_iload_n dX8_sortAt_27 rfl ?_
    refine am_bipush (v := 122) dX8_sortAt_28 (by decide) ?_
    refine am_icmp_gt (tgt := 35) dX8_sortAt_30 (by decide) (fun c2 => ?_) (fun c2 => ?_)
    · exact am_weak (sxX8_sortAt_b35 x1 h) ⟨rfl, trivial⟩ (Nat.le_refl _) (Nat.le_refl _)
    refine am_iconst (v := 1) dX8_sortAt_33 (by decide) ?_
    exact am_iret dX8_sortAt_34 rfl rfl
  refine am_iconst (v := 0) dX8_sortAt_12 (by decide) ?_
  exact am_iret dX8_sortAt_13 rfl rfl
theorem txX8_sortAt {xs : List Int32} (l0 : Option Nat) (l1 : Int32) (h : am_H) (a : Int32) (h2 : am_H) (e : fxX8_sortAt l0 l1 h = some (a, h2)) : am_Ct xs mX8_sortAt 0 0 0 [am_R l0, am_I l1] h (fun v h3 => v = am_ci a ∧ h3 = h2) := am_meth okX8_sortAt (Nat.le_of_ble_eq_true rfl) rfl (sxX8_sortAt l0 l1 h) e
theorem dX8_next_0 : am_at cX8_next 0 (.aload_n 0) 1 1 := by decide +kernel
theorem dX8_next_1 : am_at cX8_next 1 (.getfield 26) 3 4 := by decide +kernel
theorem dX8_next_4 : am_at cX8_next 4 (.iconst (-1)) 1 5 := by decide +kernel
theorem dX8_next_5 : am_at cX8_next 5 (.if_icmp .eq 4) 3 8 := by decide +kernel
theorem dX8_next_8 : am_at cX8_next 8 (.return_) 1 9 := by decide +kernel
theorem dX8_next_9 : am_at cX8_next 9 (.aload_n 0) 1 10 := by decide +kernel
theorem dX8_next_10 : am_at cX8_next 10 (.getfield 29) 3 13 := by decide +kernel
theorem dX8_next_13 : am_at cX8_next 13 (.iconst 1) 1 14 := by decide +kernel
theorem dX8_next_14 : am_at cX8_next 14 (.if_icmp .eq 11) 3 17 := by decide +kernel
theorem dX8_next_17 : am_at cX8_next 17 (.aload_n 0) 1 18 := by decide +kernel
theorem dX8_next_18 : am_at cX8_next 18 (.getfield 29) 3 21 := by decide +kernel
theorem dX8_next_21 : am_at cX8_next 21 (.iconst 2) 1 22 := by decide +kernel
theorem dX8_next_22 : am_at cX8_next 22 (.if_icmp .ne 7) 3 25 := by decide +kernel
theorem dX8_next_25 : am_at cX8_next 25 (.iconst 1) 1 26 := by decide +kernel
theorem dX8_next_26 : am_at cX8_next 26 (.goto 4) 3 29 := by decide +kernel
theorem dX8_next_29 : am_at cX8_next 29 (.iconst 0) 1 30 := by decide +kernel
theorem dX8_next_30 : am_at cX8_next 30 (.istore_n 1) 1 31 := by decide +kernel
theorem dX8_next_31 : am_at cX8_next 31 (.aload_n 0) 1 32 := by decide +kernel
theorem dX8_next_32 : am_at cX8_next 32 (.getfield 35) 3 35 := by decide +kernel
theorem dX8_next_35 : am_at cX8_next 35 (.istore_n 2) 1 36 := by decide +kernel
theorem dX8_next_36 : am_at cX8_next 36 (.aload_n 0) 1 37 := by decide +kernel
theorem dX8_next_37 : am_at cX8_next 37 (.iload_n 2) 1 38 := by decide +kernel
theorem dX8_next_38 : am_at cX8_next 38 (.putfield 32) 3 41 := by decide +kernel
theorem dX8_next_41 : am_at cX8_next 41 (.aload_n 0) 1 42 := by decide +kernel
theorem dX8_next_42 : am_at cX8_next 42 (.getfield 32) 3 45 := by decide +kernel
theorem dX8_next_45 : am_at cX8_next 45 (.aload_n 0) 1 46 := by decide +kernel
theorem dX8_next_46 : am_at cX8_next 46 (.getfield 15) 3 49 := by decide +kernel
theorem dX8_next_49 : am_at cX8_next 49 (.if_icmp .ge 30) 3 52 := by decide +kernel
theorem dX8_next_52 : am_at cX8_next 52 (.aload_n 0) 1 53 := by decide +kernel
theorem dX8_next_53 : am_at cX8_next 53 (.getfield 9) 3 56 := by decide +kernel
theorem dX8_next_56 : am_at cX8_next 56 (.aload_n 0) 1 57 := by decide +kernel
theorem dX8_next_57 : am_at cX8_next 57 (.getfield 32) 3 60 := by decide +kernel
theorem dX8_next_60 : am_at cX8_next 60 (.iaload) 1 61 := by decide +kernel
theorem dX8_next_61 : am_at cX8_next 61 (.bipush 32) 2 63 := by decide +kernel
theorem dX8_next_63 : am_at cX8_next 63 (.if_icmp .ne 16) 3 66 := by decide +kernel
theorem dX8_next_66 : am_at cX8_next 66 (.aload_n 0) 1 67 := by decide +kernel
theorem dX8_next_67 : am_at cX8_next 67 (.dup) 1 68 := by decide +kernel
theorem dX8_next_68 : am_at cX8_next 68 (.getfield 32) 3 71 := by decide +kernel
theorem dX8_next_71 : am_at cX8_next 71 (.iconst 1) 1 72 := by decide +kernel
theorem dX8_next_72 : am_at cX8_next 72 (.iadd) 1 73 := by decide +kernel
theorem dX8_next_73 : am_at cX8_next 73 (.putfield 32) 3 76 := by decide +kernel
theorem dX8_next_76 : am_at cX8_next 76 (.goto (-35)) 3 79 := by decide +kernel
theorem dX8_next_79 : am_at cX8_next 79 (.aload_n 0) 1 80 := by decide +kernel
theorem dX8_next_80 : am_at cX8_next 80 (.aload_n 0) 1 81 := by decide +kernel
theorem dX8_next_81 : am_at cX8_next 81 (.getfield 32) 3 84 := by decide +kernel
theorem dX8_next_84 : am_at cX8_next 84 (.putfield 35) 3 87 := by decide +kernel
theorem dX8_next_87 : am_at cX8_next 87 (.aload_n 0) 1 88 := by decide +kernel
theorem dX8_next_88 : am_at cX8_next 88 (.aload_n 0) 1 89 := by decide +kernel
theorem dX8_next_89 : am_at cX8_next 89 (.aload_n 0) 1 90 := by decide +kernel
theorem dX8_next_90 : am_at cX8_next 90 (.getfield 32) 3 93 := by decide +kernel
theorem dX8_next_93 : am_at cX8_next 93 (.invokevirtual 55) 3 96 := by decide +kernel
theorem dX8_next_96 : am_at cX8_next 96 (.putfield 29) 3 99 := by decide +kernel
theorem dX8_next_99 : am_at cX8_next 99 (.aload_n 0) 1 100 := by decide +kernel
theorem dX8_next_100 : am_at cX8_next 100 (.getfield 29) 3 103 := by decide +kernel
theorem dX8_next_103 : am_at cX8_next 103 (.iconst 3) 1 104 := by decide +kernel
theorem dX8_next_104 : am_at cX8_next 104 (.if_icmp .ne 16) 3 107 := by decide +kernel
theorem dX8_next_107 : am_at cX8_next 107 (.aload_n 0) 1 108 := by decide +kernel
theorem dX8_next_108 : am_at cX8_next 108 (.dup) 1 109 := by decide +kernel
theorem dX8_next_109 : am_at cX8_next 109 (.getfield 35) 3 112 := by decide +kernel
theorem dX8_next_112 : am_at cX8_next 112 (.iconst 1) 1 113 := by decide +kernel
theorem dX8_next_113 : am_at cX8_next 113 (.iadd) 1 114 := by decide +kernel
theorem dX8_next_114 : am_at cX8_next 114 (.putfield 35) 3 117 := by decide +kernel
theorem dX8_next_117 : am_at cX8_next 117 (.goto 42) 3 120 := by decide +kernel
theorem dX8_next_120 : am_at cX8_next 120 (.aload_n 0) 1 121 := by decide +kernel
theorem dX8_next_121 : am_at cX8_next 121 (.getfield 35) 3 124 := by decide +kernel
theorem dX8_next_124 : am_at cX8_next 124 (.aload_n 0) 1 125 := by decide +kernel
theorem dX8_next_125 : am_at cX8_next 125 (.getfield 15) 3 128 := by decide +kernel
theorem dX8_next_128 : am_at cX8_next 128 (.if_icmp .ge 31) 3 131 := by decide +kernel
theorem dX8_next_131 : am_at cX8_next 131 (.aload_n 0) 1 132 := by decide +kernel
theorem dX8_next_132 : am_at cX8_next 132 (.aload_n 0) 1 133 := by decide +kernel
theorem dX8_next_133 : am_at cX8_next 133 (.getfield 35) 3 136 := by decide +kernel
theorem dX8_next_136 : am_at cX8_next 136 (.invokevirtual 55) 3 139 := by decide +kernel
theorem dX8_next_139 : am_at cX8_next 139 (.aload_n 0) 1 140 := by decide +kernel
theorem dX8_next_140 : am_at cX8_next 140 (.getfield 29) 3 143 := by decide +kernel
theorem dX8_next_143 : am_at cX8_next 143 (.if_icmp .ne 16) 3 146 := by decide +kernel
theorem dX8_next_146 : am_at cX8_next 146 (.aload_n 0) 1 147 := by decide +kernel
theorem dX8_next_147 : am_at cX8_next 147 (.dup) 1 148 := by decide +kernel
theorem dX8_next_148 : am_at cX8_next 148 (.getfield 35) 3 151 := by decide +kernel
theorem dX8_next_151 : am_at cX8_next 151 (.iconst 1) 1 152 := by decide +kernel
theorem dX8_next_152 : am_at cX8_next 152 (.iadd) 1 153 := by decide +kernel
theorem dX8_next_153 : am_at cX8_next 153 (.putfield 35) 3 156 := by decide +kernel
theorem dX8_next_156 : am_at cX8_next 156 (.goto (-36)) 3 159 := by decide +kernel
theorem dX8_next_159 : am_at cX8_next 159 (.iload_n 1) 1 160 := by decide +kernel
theorem dX8_next_160 : am_at cX8_next 160 (.ifCond .eq 31) 3 163 := by decide +kernel
theorem dX8_next_163 : am_at cX8_next 163 (.aload_n 0) 1 164 := by decide +kernel
theorem dX8_next_164 : am_at cX8_next 164 (.getfield 32) 3 167 := by decide +kernel
theorem dX8_next_167 : am_at cX8_next 167 (.iload_n 2) 1 168 := by decide +kernel
theorem dX8_next_168 : am_at cX8_next 168 (.if_icmp .ne 23) 3 171 := by decide +kernel
theorem dX8_next_171 : am_at cX8_next 171 (.aload_n 0) 1 172 := by decide +kernel
theorem dX8_next_172 : am_at cX8_next 172 (.getfield 29) 3 175 := by decide +kernel
theorem dX8_next_175 : am_at cX8_next 175 (.iconst 1) 1 176 := by decide +kernel
theorem dX8_next_176 : am_at cX8_next 176 (.if_icmp .eq 11) 3 179 := by decide +kernel
theorem dX8_next_179 : am_at cX8_next 179 (.aload_n 0) 1 180 := by decide +kernel
theorem dX8_next_180 : am_at cX8_next 180 (.getfield 29) 3 183 := by decide +kernel
theorem dX8_next_183 : am_at cX8_next 183 (.iconst 2) 1 184 := by decide +kernel
theorem dX8_next_184 : am_at cX8_next 184 (.if_icmp .ne 7) 3 187 := by decide +kernel
theorem dX8_next_187 : am_at cX8_next 187 (.iconst 1) 1 188 := by decide +kernel
theorem dX8_next_188 : am_at cX8_next 188 (.goto 4) 3 191 := by decide +kernel
theorem dX8_next_191 : am_at cX8_next 191 (.iconst 0) 1 192 := by decide +kernel
theorem dX8_next_192 : am_at cX8_next 192 (.istore_n 3) 1 193 := by decide +kernel
theorem dX8_next_193 : am_at cX8_next 193 (.aload_n 0) 1 194 := by decide +kernel
theorem dX8_next_194 : am_at cX8_next 194 (.getfield 29) 3 197 := by decide +kernel
theorem dX8_next_197 : am_at cX8_next 197 (.iconst 2) 1 198 := by decide +kernel
theorem dX8_next_198 : am_at cX8_next 198 (.if_icmp .ne 20) 3 201 := by decide +kernel
theorem dX8_next_201 : am_at cX8_next 201 (.aload_n 0) 1 202 := by decide +kernel
theorem dX8_next_202 : am_at cX8_next 202 (.getfield 35) 3 205 := by decide +kernel
theorem dX8_next_205 : am_at cX8_next 205 (.aload_n 0) 1 206 := by decide +kernel
theorem dX8_next_206 : am_at cX8_next 206 (.getfield 32) 3 209 := by decide +kernel
theorem dX8_next_209 : am_at cX8_next 209 (.isub) 1 210 := by decide +kernel
theorem dX8_next_210 : am_at cX8_next 210 (.iconst 4) 1 211 := by decide +kernel
theorem dX8_next_211 : am_at cX8_next 211 (.if_icmp .le 7) 3 214 := by decide +kernel
theorem dX8_next_214 : am_at cX8_next 214 (.iconst 1) 1 215 := by decide +kernel
theorem dX8_next_215 : am_at cX8_next 215 (.goto 4) 3 218 := by decide +kernel
theorem dX8_next_218 : am_at cX8_next 218 (.iconst 0) 1 219 := by decide +kernel
theorem dX8_next_219 : am_at cX8_next 219 (.istore 4) 2 221 := by decide +kernel
theorem dX8_next_221 : am_at cX8_next 221 (.iload_n 3) 1 222 := by decide +kernel
theorem dX8_next_222 : am_at cX8_next 222 (.ifCond .ne 8) 3 225 := by decide +kernel
theorem dX8_next_225 : am_at cX8_next 225 (.iload 4) 2 227 := by decide +kernel
theorem dX8_next_227 : am_at cX8_next 227 (.ifCond .eq 7) 3 230 := by decide +kernel
theorem dX8_next_230 : am_at cX8_next 230 (.aload_n 0) 1 231 := by decide +kernel
theorem dX8_next_231 : am_at cX8_next 231 (.invokevirtual 52) 3 234 := by decide +kernel
theorem dX8_next_234 : am_at cX8_next 234 (.return_) 1 235 := by decide +kernel
def fxX8_next_b230 (l0 : Option Nat) (h : am_H) : Option (Unit × am_H) := am_gd (am_ob h l0 8) (am_bd (fxX8_refuse l0 h) (fun _ h31 => some ((), h31)))
set_option maxRecDepth 100000 in
theorem sxX8_next_b230 {xs : List Int32} (l0 : Option Nat) (h : am_H) : am_Sm xs am_cu mX8_next 1 0 0 230 [some (am_R l0), none, none, none, none] [] h (fxX8_next_b230 l0 h) := by
  unfold fxX8_next_b230
  refine am_aload_n dX8_next_230 rfl ?_
  refine am_callV (cvj := am_cu) (mtj := mX8_refuse) (dj := 0) (nj := 0) (rcj := 0) (rsj := 0) (rc' := 0) (rs' := 0) (ci := 8) (st' := fun _ => []) ⟨_, rfl, rfl⟩ [] [] dX8_next_231 okX8_refuse lk_RX8_52 (fun zA zH zE => txX8_refuse l0 h zA zH zE) rfl (fun _ => rfl) (by decide) rfl (Nat.le_of_ble_eq_true rfl) (by decide) (by decide) (fun _ h31 => ?_)
  exact am_vret dX8_next_234 rfl rfl
def fxX8_next_b219 (l0 : Option Nat) (l3 : Int32) (s0 : Int32) (h : am_H) : Option (Unit × am_H) := am_lt s0 (fun x28 => if l3 = 0 then (if x28 = 0 then (some ((), h)) else (fxX8_next_b230 l0 h)) else (fxX8_next_b230 l0 h))
set_option maxRecDepth 100000 in
theorem sxX8_next_b219 {xs : List Int32} (l0 : Option Nat) (l3 : Int32) (s0 : Int32) (h : am_H) : am_Sm xs am_cu mX8_next 1 0 0 219 [some (am_R l0), none, none, some (am_I l3), none] [am_I s0] h (fxX8_next_b219 l0 l3 s0 h) := by
  unfold fxX8_next_b219
  refine am_istore (LL := fun y9 => [some (am_R l0), none, none, some (am_I l3), some (am_I y9)]) dX8_next_219 (by decide) (fun _ => rfl) (fun x28 => ?_)
  refine am_iload_n dX8_next_221 rfl ?_
  refine am_if_ne (tgt := 230) dX8_next_222 (by decide) (fun c30 => ?_) (fun c30 => ?_)
  · exact am_weak (sxX8_next_b230 l0 h) ⟨rfl, trivial⟩ (Nat.le_refl _) (Nat.le_refl _)
  refine am_iload dX8_next_225 rfl ?_
  refine am_if_eq (tgt := 234) dX8_next_227 (by decide) (fun c29 => ?_) (fun c29 => ?_)
  · exact am_vret dX8_next_234 rfl rfl
  exact am_weak (sxX8_next_b230 l0 h) ⟨rfl, trivial⟩ (Nat.le_refl _) (Nat.le_refl _)
def fxX8_next_b218 (l0 : Option Nat) (l3 : Int32) (h : am_H) : Option (Unit × am_H) := fxX8_next_b219 l0 l3 (0 : Int32) h
set_option maxRecDepth 100000 in
theorem sxX8_next_b218 {xs : List Int32} (l0 : Option Nat) (l3 : Int32) (h : am_H) : am_Sm xs am_cu mX8_next 1 0 0 218 [some (am_R l0), none, none, some (am_I l3), none] [] h (fxX8_next_b218 l0 l3 h) := by
  unfold fxX8_next_b218
  refine am_iconst (v := 0) dX8_next_218 (by decide) ?_
  exact am_weak (sxX8_next_b219 l0 l3 (0 : Int32) h) ⟨rfl, ⟨rfl, trivial⟩⟩ (Nat.le_refl _) (Nat.le_refl _)
def fxX8_next_b192 (l0 : Option Nat) (s0 : Int32) (h : am_H) : Option (Unit × am_H) := am_lt s0 (fun x25 => am_gd (am_ob h l0 8) (if (am_gi h l0 4) = (2 : Int32) then (am_gd (am_ob h l0 8) (am_gd (am_ob h l0 8) (if ((am_gi h l0 6) - (am_gi h l0 5)) ≤ (4 : Int32) then (fxX8_next_b218 l0 x25 h) else (fxX8_next_b219 l0 x25 (1 : Int32) h)))) else (fxX8_next_b218 l0 x25 h)))
set_option maxRecDepth 100000 in
theorem sxX8_next_b192 {xs : List Int32} (l0 : Option Nat) (s0 : Int32) (h : am_H) : am_Sm xs am_cu mX8_next 1 0 0 192 [some (am_R l0), none, none, none, none] [am_I s0] h (fxX8_next_b192 l0 s0 h) := by
  unfold fxX8_next_b192
  refine am_istore_n (LL := fun y9 => [some (am_R l0), none, none, some (am_I y9), none]) dX8_next_192 (by decide) (fun _ => rfl) (fun x25 => ?_)
  refine am_aload_n dX8_next_193 rfl ?_
  refine am_getI dX8_next_194 fk_RX8_29 rfl ?_
  refine am_iconst (v := 2) dX8_next_197 (by decide) ?_
  refine am_icmp_ne (tgt := 218) dX8_next_198 (by decide) (fun c27 => ?_) (fun c27 => ?_)
  · exact am_weak (sxX8_next_b218 l0 x25 h) ⟨rfl, ⟨rfl, trivial⟩⟩ (Nat.le_refl _) (Nat.le_refl _)
  refine am_aload_n dX8_next_201 rfl ?_
  refine am_getI dX8_next_202 fk_RX8_35 rfl ?_
  refine am_aload_n dX8_next_205 rfl ?_
  refine am_getI dX8_next_206 fk_RX8_32 rfl ?_
  refine am_isub dX8_next_209 ?_
  refine am_iconst (v := 4) dX8_next_210 (by decide) ?_
  refine am_icmp_le (tgt := 218) dX8_next_211 (by decide) (fun c26 => ?_) (fun c26 => ?_)
  · exact am_weak (sxX8_next_b218 l0 x25 h) ⟨rfl, ⟨rfl, trivial⟩⟩ (Nat.le_refl _) (Nat.le_refl _)
  refine am_iconst (v := 1) dX8_next_214 (by decide) ?_
  refine am_goto (tgt := 219) dX8_next_215 (by decide) ?_
  exact am_weak (sxX8_next_b219 l0 x25 (1 : Int32) h) ⟨rfl, ⟨rfl, trivial⟩⟩ (Nat.le_refl _) (Nat.le_refl _)
def fxX8_next_b187 (l0 : Option Nat) (h : am_H) : Option (Unit × am_H) := fxX8_next_b192 l0 (1 : Int32) h
set_option maxRecDepth 100000 in
theorem sxX8_next_b187 {xs : List Int32} (l0 : Option Nat) (h : am_H) : am_Sm xs am_cu mX8_next 1 0 0 187 [some (am_R l0), none, none, none, none] [] h (fxX8_next_b187 l0 h) := by
  unfold fxX8_next_b187
  refine am_iconst (v := 1) dX8_next_187 (by decide) ?_
  refine am_goto (tgt := 192) dX8_next_188 (by decide) ?_
  exact am_weak (sxX8_next_b192 l0 (1 : Int32) h) ⟨rfl, trivial⟩ (Nat.le_refl _) (Nat.le_refl _)
def fxX8_next_b191 (l0 : Option Nat) (h : am_H) : Option (Unit × am_H) := fxX8_next_b192 l0 (0 : Int32) h
set_option maxRecDepth 100000 in
theorem sxX8_next_b191 {xs : List Int32} (l0 : Option Nat) (h : am_H) : am_Sm xs am_cu mX8_next 1 0 0 191 [some (am_R l0), none, none, none, none] [] h (fxX8_next_b191 l0 h) := by
  unfold fxX8_next_b191
  refine am_iconst (v := 0) dX8_next_191 (by decide) ?_
  exact am_weak (sxX8_next_b192 l0 (0 : Int32) h) ⟨rfl, trivial⟩ (Nat.le_refl _) (Nat.le_refl _)
def fxX8_next_b159 (l0 : Option Nat) (l1 : Int32) (l2 : Int32) (h : am_H) : Option (Unit × am_H) := if l1 = 0 then (fxX8_next_b191 l0 h) else (am_gd (am_ob h l0 8) (if (am_gi h l0 5) = l2 then (am_gd (am_ob h l0 8) (if (am_gi h l0 4) = (1 : Int32) then (fxX8_next_b187 l0 h) else (am_gd (am_ob h l0 8) (if (am_gi h l0 4) = (2 : Int32) then (fxX8_next_b187 l0 h) else (fxX8_next_b191 l0 h))))) else (fxX8_next_b191 l0 h)))
set_option maxRecDepth 100000 in
theorem sxX8_next_b159 {xs : List Int32} (l0 : Option Nat) (l1 : Int32) (l2 : Int32) (h : am_H) : am_Sm xs am_cu mX8_next 1 0 0 159 [some (am_R l0), some (am_I l1), some (am_I l2), none, none] [] h (fxX8_next_b159 l0 l1 l2 h) := by
  unfold fxX8_next_b159
  refine am_iload_n dX8_next_159 rfl ?_
  refine am_if_eq (tgt := 191) dX8_next_160 (by decide) (fun c24 => ?_) (fun c24 => ?_)
  · exact am_weak (sxX8_next_b191 l0 h) ⟨rfl, trivial⟩ (Nat.le_refl _) (Nat.le_refl _)
  refine am_aload_n dX8_next_163 rfl ?_
  refine am_getI dX8_next_164 fk_RX8_32 rfl ?_
  refine am_iload_n dX8_next_167 rfl ?_
  refine am_icmp_ne (tgt := 191) dX8_next_168 (by decide) (fun c23 => ?_) (fun c23 => ?_)
  · exact am_weak (sxX8_next_b191 l0 h) ⟨rfl, trivial⟩ (Nat.le_refl _) (Nat.le_refl _)
  refine am_aload_n dX8_next_171 rfl ?_
  refine am_getI dX8_next_172 fk_RX8_29 rfl ?_
  refine am_iconst (v := 1) dX8_next_175 (by decide) ?_
  refine am_icmp_eq (tgt := 187) dX8_next_176 (by decide) (fun c22 => ?_) (fun c22 => ?_)
  · exact am_weak (sxX8_next_b187 l0 h) ⟨rfl, trivial⟩ (Nat.le_refl _) (Nat.le_refl _)
  refine am_aload_n dX8_next_179 rfl ?_
  refine am_getI dX8_next_180 fk_RX8_29 rfl ?_
  refine am_iconst (v := 2) dX8_next_183 (by decide) ?_
  refine am_icmp_ne (tgt := 191) dX8_next_184 (by decide) (fun c21 => ?_) (fun c21 => ?_)
  · exact am_weak (sxX8_next_b191 l0 h) ⟨rfl, trivial⟩ (Nat.le_refl _) (Nat.le_refl _)
  exact am_weak (sxX8_next_b187 l0 h) ⟨rfl, trivial⟩ (Nat.le_refl _) (Nat.le_refl _)
def fxX8_next_b120 : Nat → Option Nat → Int32 → Int32 → am_H → Option (Unit × am_H)
  | 0, _, _, _, _ => none
  | n + 1, l0, l1, l2, h => am_gd (am_ob h l0 8) (am_gd (am_ob h l0 8) (if (am_gi h l0 1) ≤ (am_gi h l0 6) then (fxX8_next_b159 l0 l1 l2 h) else (am_gd (am_ob h l0 8) (am_gd (am_ob h l0 8) (am_bd (fxX8_sortAt l0 (am_gi h l0 6) h) (fun r16 h17 => am_gd (am_ob h17 l0 8) (if r16 = (am_gi h17 l0 4) then (am_gd (am_ob h17 l0 8) (am_gd (am_ob h17 l0 8) (am_lt (am_si h17 l0 6 ((am_gi h17 l0 6) + (1 : Int32))) (fun h18 => fxX8_next_b120 n l0 l1 l2 h18)))) else (fxX8_next_b159 l0 l1 l2 h17))))))))
set_option maxRecDepth 100000 in
theorem sxX8_next_b120 {xs : List Int32} : ∀ (n : Nat) (l0 : Option Nat) (l1 : Int32) (l2 : Int32) (h : am_H), am_Sm xs am_cu mX8_next 1 0 0 120 [some (am_R l0), some (am_I l1), some (am_I l2), none, none] [] h (fxX8_next_b120 n l0 l1 l2 h) := by
  intro n
  induction n with
  | zero => intros; exact am_none
  | succ n ih =>
    intro l0 l1 l2 h
    rw [fxX8_next_b120]
    refine am_aload_n dX8_next_120 rfl ?_
    refine am_getI dX8_next_121 fk_RX8_35 rfl ?_
    refine am_aload_n dX8_next_124 rfl ?_
    refine am_getI dX8_next_125 fk_RX8_15 rfl ?_
    refine am_icmp_ge (tgt := 159) dX8_next_128 (by decide) (fun c20 => ?_) (fun c20 => ?_)
    · exact am_weak (sxX8_next_b159 l0 l1 l2 h) ⟨rfl, ⟨rfl, ⟨rfl, trivial⟩⟩⟩ (Nat.le_refl _) (Nat.le_refl _)
    refine am_aload_n dX8_next_131 rfl ?_
    refine am_aload_n dX8_next_132 rfl ?_
    refine am_getI dX8_next_133 fk_RX8_35 rfl ?_
    refine am_callV (cvj := am_ci) (mtj := mX8_sortAt) (dj := 0) (nj := 1) (rcj := 0) (rsj := 0) (rc' := 0) (rs' := 0) (ci := 8) (st' := fun a9 => (am_I a9 :: [])) ⟨_, rfl, rfl⟩ [am_I (am_gi h l0 6)] [] dX8_next_136 okX8_sortAt lk_RX8_55 (fun zA zH zE => txX8_sortAt l0 (am_gi h l0 6) h zA zH zE) rfl (fun _ => rfl) (by decide) rfl (Nat.le_of_ble_eq_true rfl) (by decide) (by decide) (fun r16 h17 => ?_)
    refine am_aload_n dX8_next_139 rfl ?_
    refine am_getI dX8_next_140 fk_RX8_29 rfl ?_
    refine am_icmp_ne (tgt := 159) dX8_next_143 (by decide) (fun c19 => ?_) (fun c19 => ?_)
    · exact am_weak (sxX8_next_b159 l0 l1 l2 h17) ⟨rfl, ⟨rfl, ⟨rfl, trivial⟩⟩⟩ (Nat.le_refl _) (Nat.le_refl _)
    refine am_aload_n dX8_next_146 rfl ?_
    refine am_dup dX8_next_147 ?_
    refine am_getI dX8_next_148 fk_RX8_35 rfl ?_
    refine am_iconst (v := 1) dX8_next_151 (by decide) ?_
    refine am_iadd dX8_next_152 ?_
    refine am_putI dX8_next_153 fk_RX8_35 ⟨_, rfl, Or.inl rfl⟩ rfl (fun h18 => ?_)
    refine am_goto (tgt := 120) dX8_next_156 (by decide) ?_
    exact am_weak (ih l0 l1 l2 h18) ⟨rfl, ⟨rfl, ⟨rfl, trivial⟩⟩⟩ (Nat.le_refl _) (Nat.le_refl _)
def fxX8_next_b79 (l0 : Option Nat) (l1 : Int32) (l2 : Int32) (h : am_H) : Option (Unit × am_H) := am_gd (am_ob h l0 8) (am_gd (am_ob h l0 8) (am_lt (am_si h l0 6 (am_gi h l0 5)) (fun h10 => am_gd (am_ob h10 l0 8) (am_gd (am_ob h10 l0 8) (am_bd (fxX8_sortAt l0 (am_gi h10 l0 5) h10) (fun r11 h12 => am_gd (am_ob h12 l0 8) (am_lt (am_si h12 l0 4 r11) (fun h13 => am_gd (am_ob h13 l0 8) (if (am_gi h13 l0 4) = (3 : Int32) then (am_gd (am_ob h13 l0 8) (am_gd (am_ob h13 l0 8) (am_lt (am_si h13 l0 6 ((am_gi h13 l0 6) + (1 : Int32))) (fun h14 => fxX8_next_b159 l0 l1 l2 h14)))) else (fxX8_next_b120 am_F l0 l1 l2 h13))))))))))
set_option maxRecDepth 100000 in
theorem sxX8_next_b79 {xs : List Int32} (l0 : Option Nat) (l1 : Int32) (l2 : Int32) (h : am_H) : am_Sm xs am_cu mX8_next 1 0 0 79 [some (am_R l0), some (am_I l1), some (am_I l2), none, none] [] h (fxX8_next_b79 l0 l1 l2 h) := by
  unfold fxX8_next_b79
  refine am_aload_n dX8_next_79 rfl ?_
  refine am_aload_n dX8_next_80 rfl ?_
  refine am_getI dX8_next_81 fk_RX8_32 rfl ?_
  refine am_putI dX8_next_84 fk_RX8_35 ⟨_, rfl, Or.inl rfl⟩ rfl (fun h10 => ?_)
  refine am_aload_n dX8_next_87 rfl ?_
  refine am_aload_n dX8_next_88 rfl ?_
  refine am_aload_n dX8_next_89 rfl ?_
  refine am_getI dX8_next_90 fk_RX8_32 rfl ?_
  refine am_callV (cvj := am_ci) (mtj := mX8_sortAt) (dj := 0) (nj := 1) (rcj := 0) (rsj := 0) (rc' := 0) (rs' := 0) (ci := 8) (st' := fun a9 => (am_I a9 :: [am_R l0])) ⟨_, rfl, rfl⟩ [am_I (am_gi h10 l0 5)] [am_R l0] dX8_next_93 okX8_sortAt lk_RX8_55 (fun zA zH zE => txX8_sortAt l0 (am_gi h10 l0 5) h10 zA zH zE) rfl (fun _ => rfl) (by decide) rfl (Nat.le_of_ble_eq_true rfl) (by decide) (by decide) (fun r11 h12 => ?_)
  refine am_putI dX8_next_96 fk_RX8_29 ⟨_, rfl, Or.inl rfl⟩ rfl (fun h13 => ?_)
  refine am_aload_n dX8_next_99 rfl ?_
  refine am_getI dX8_next_100 fk_RX8_29 rfl ?_
  refine am_iconst (v := 3) dX8_next_103 (by decide) ?_
  refine am_icmp_ne (tgt := 120) dX8_next_104 (by decide) (fun c15 => ?_) (fun c15 => ?_)
  · exact am_weak (sxX8_next_b120 am_F l0 l1 l2 h13) ⟨rfl, ⟨rfl, ⟨rfl, trivial⟩⟩⟩ (Nat.le_refl _) (Nat.le_refl _)
  refine am_aload_n dX8_next_107 rfl ?_
  refine am_dup dX8_next_108 ?_
  refine am_getI dX8_next_109 fk_RX8_35 rfl ?_
  refine am_iconst (v := 1) dX8_next_112 (by decide) ?_
  refine am_iadd dX8_next_113 ?_
  refine am_putI dX8_next_114 fk_RX8_35 ⟨_, rfl, Or.inl rfl⟩ rfl (fun h14 => ?_)
  refine am_goto (tgt := 159) dX8_next_117 (by decide) ?_
  exact am_weak (sxX8_next_b159 l0 l1 l2 h14) ⟨rfl, ⟨rfl, ⟨rfl, trivial⟩⟩⟩ (Nat.le_refl _) (Nat.le_refl _)
def fxX8_next_b41 : Nat → Option Nat → Int32 → Int32 → am_H → Option (Unit × am_H)
  | 0, _, _, _, _ => none
  | n + 1, l0, l1, l2, h => am_gd (am_ob h l0 8) (am_gd (am_ob h l0 8) (if (am_gi h l0 1) ≤ (am_gi h l0 5) then (fxX8_next_b79 l0 l1 l2 h) else (am_gd (am_ob h l0 8) (am_gd (am_ob h l0 8) (am_gd (am_ix h (am_gr h l0 0) 0 (am_gi h l0 5)) (if (am_gi h (am_gr h l0 0) (am_gi h l0 5).toNatClampNeg) = (32 : Int32) then (am_gd (am_ob h l0 8) (am_gd (am_ob h l0 8) (am_lt (am_si h l0 5 ((am_gi h l0 5) + (1 : Int32))) (fun h7 => fxX8_next_b41 n l0 l1 l2 h7)))) else (fxX8_next_b79 l0 l1 l2 h)))))))
set_option maxRecDepth 100000 in
theorem sxX8_next_b41 {xs : List Int32} : ∀ (n : Nat) (l0 : Option Nat) (l1 : Int32) (l2 : Int32) (h : am_H), am_Sm xs am_cu mX8_next 1 0 0 41 [some (am_R l0), some (am_I l1), some (am_I l2), none, none] [] h (fxX8_next_b41 n l0 l1 l2 h) := by
  intro n
  induction n with
  | zero => intros; exact am_none
  | succ n ih =>
    intro l0 l1 l2 h
    rw [fxX8_next_b41]
    refine am_aload_n dX8_next_41 rfl ?_
    refine am_getI dX8_next_42 fk_RX8_32 rfl ?_
    refine am_aload_n dX8_next_45 rfl ?_
    refine am_getI dX8_next_46 fk_RX8_15 rfl ?_
    refine am_icmp_ge (tgt := 79) dX8_next_49 (by decide) (fun c9 => ?_) (fun c9 => ?_)
    · exact am_weak (sxX8_next_b79 l0 l1 l2 h) ⟨rfl, ⟨rfl, ⟨rfl, trivial⟩⟩⟩ (Nat.le_refl _) (Nat.le_refl _)
    refine am_aload_n dX8_next_52 rfl ?_
    refine am_getR dX8_next_53 fk_RX8_9 rfl ?_
    refine am_aload_n dX8_next_56 rfl ?_
    refine am_getI dX8_next_57 fk_RX8_32 rfl ?_
    refine am_iald dX8_next_60 ?_
    refine am_bipush (v := 32) dX8_next_61 (by decide) ?_
    refine am_icmp_ne (tgt := 79) dX8_next_63 (by decide) (fun c8 => ?_) (fun c8 => ?_)
    · exact am_weak (sxX8_next_b79 l0 l1 l2 h) ⟨rfl, ⟨rfl, ⟨rfl, trivial⟩⟩⟩ (Nat.le_refl _) (Nat.le_refl _)
    refine am_aload_n dX8_next_66 rfl ?_
    refine am_dup dX8_next_67 ?_
    refine am_getI dX8_next_68 fk_RX8_32 rfl ?_
    refine am_iconst (v := 1) dX8_next_71 (by decide) ?_
    refine am_iadd dX8_next_72 ?_
    refine am_putI dX8_next_73 fk_RX8_32 ⟨_, rfl, Or.inl rfl⟩ rfl (fun h7 => ?_)
    refine am_goto (tgt := 41) dX8_next_76 (by decide) ?_
    exact am_weak (ih l0 l1 l2 h7) ⟨rfl, ⟨rfl, ⟨rfl, trivial⟩⟩⟩ (Nat.le_refl _) (Nat.le_refl _)
def fxX8_next_b30 (l0 : Option Nat) (s0 : Int32) (h : am_H) : Option (Unit × am_H) := am_lt s0 (fun x4 => am_gd (am_ob h l0 8) (am_lt (am_gi h l0 6) (fun x5 => am_gd (am_ob h l0 8) (am_lt (am_si h l0 5 x5) (fun h6 => fxX8_next_b41 am_F l0 x4 x5 h6)))))
set_option maxRecDepth 100000 in
theorem sxX8_next_b30 {xs : List Int32} (l0 : Option Nat) (s0 : Int32) (h : am_H) : am_Sm xs am_cu mX8_next 1 0 0 30 [some (am_R l0), none, none, none, none] [am_I s0] h (fxX8_next_b30 l0 s0 h) := by
  unfold fxX8_next_b30
  refine am_istore_n (LL := fun y9 => [some (am_R l0), some (am_I y9), none, none, none]) dX8_next_30 (by decide) (fun _ => rfl) (fun x4 => ?_)
  refine am_aload_n dX8_next_31 rfl ?_
  refine am_getI dX8_next_32 fk_RX8_35 rfl ?_
  refine am_istore_n (LL := fun y9 => [some (am_R l0), some (am_I x4), some (am_I y9), none, none]) dX8_next_35 (by decide) (fun _ => rfl) (fun x5 => ?_)
  refine am_aload_n dX8_next_36 rfl ?_
  refine am_iload_n dX8_next_37 rfl ?_
  refine am_putI dX8_next_38 fk_RX8_32 ⟨_, rfl, Or.inl rfl⟩ rfl (fun h6 => ?_)
  exact am_weak (sxX8_next_b41 am_F l0 x4 x5 h6) ⟨rfl, ⟨rfl, ⟨rfl, trivial⟩⟩⟩ (Nat.le_refl _) (Nat.le_refl _)
def fxX8_next_b25 (l0 : Option Nat) (h : am_H) : Option (Unit × am_H) := fxX8_next_b30 l0 (1 : Int32) h
set_option maxRecDepth 100000 in
theorem sxX8_next_b25 {xs : List Int32} (l0 : Option Nat) (h : am_H) : am_Sm xs am_cu mX8_next 1 0 0 25 [some (am_R l0), none, none, none, none] [] h (fxX8_next_b25 l0 h) := by
  unfold fxX8_next_b25
  refine am_iconst (v := 1) dX8_next_25 (by decide) ?_
  refine am_goto (tgt := 30) dX8_next_26 (by decide) ?_
  exact am_weak (sxX8_next_b30 l0 (1 : Int32) h) ⟨rfl, trivial⟩ (Nat.le_refl _) (Nat.le_refl _)
def fxX8_next (l0 : Option Nat) (h : am_H) : Option (Unit × am_H) := am_gd (am_ob h l0 8) (if (am_gi h l0 3) = (-1 : Int32) then (am_gd (am_ob h l0 8) (if (am_gi h l0 4) = (1 : Int32) then (fxX8_next_b25 l0 h) else (am_gd (am_ob h l0 8) (if (am_gi h l0 4) = (2 : Int32) then (fxX8_next_b25 l0 h) else (fxX8_next_b30 l0 (0 : Int32) h))))) else (some ((), h)))
set_option maxRecDepth 100000 in
theorem sxX8_next {xs : List Int32} (l0 : Option Nat) (h : am_H) : am_Sm xs am_cu mX8_next 1 0 0 0 [some (am_R l0), none, none, none, none] [] h (fxX8_next l0 h) := by
  unfold fxX8_next
  refine am_aload_n dX8_next_0 rfl ?_
  refine am_getI dX8_next_1 fk_RX8_26 rfl ?_
  refine am_iconst (v := (-1)) dX8_next_4 (by decide) ?_
  refine am_icmp_eq (tgt := 9) dX8_next_5 (by decide) (fun c3 => ?_) (fun c3 => ?_)
  · refine am_aload_n dX8_next_9 rfl ?_
    refine am_getI dX8_next_10 fk_RX8_29 rfl ?_
    refine am_iconst (v := 1) dX8_next_13 (by decide) ?_
    refine am_icmp_eq (tgt := 25) dX8_next_14 (by decide) (fun c2 => ?_) (fun c2 => ?_)
    · exact am_weak (sxX8_next_b25 l0 h) ⟨rfl, trivial⟩ (Nat.le_refl _) (Nat.le_refl _)
    refine am_aload_n dX8_next_17 rfl ?_
    refine am_getI dX8_next_18 fk_RX8_29 rfl ?_
    refine am_iconst (v := 2) dX8_next_21 (by decide) ?_
    refine am_icmp_ne (tgt := 29) dX8_next_22 (by decide) (fun c1 => ?_) (fun c1 => ?_)
    · refine am_iconst (v := 0) dX8_next_29 (by decide) ?_
      exact am_weak (sxX8_next_b30 l0 (0 : Int32) h) ⟨rfl, trivial⟩ (Nat.le_refl _) (Nat.le_refl _)
    exact am_weak (sxX8_next_b25 l0 h) ⟨rfl, trivial⟩ (Nat.le_refl _) (Nat.le_refl _)
  exact am_vret dX8_next_8 rfl rfl
theorem txX8_next {xs : List Int32} (l0 : Option Nat) (h : am_H) (a : Unit) (h2 : am_H) (e : fxX8_next l0 h = some (a, h2)) : am_Ct xs mX8_next 1 0 0 [am_R l0] h (fun v h3 => v = am_cu a ∧ h3 = h2) := am_meth okX8_next (Nat.le_of_ble_eq_true rfl) rfl (sxX8_next l0 h) e
