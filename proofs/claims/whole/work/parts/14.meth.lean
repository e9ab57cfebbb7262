theorem dX8_sign_0 : am_at cX8_sign 0 (.aload_n 0) 1 1 := by decide +kernel
theorem dX8_sign_1 : am_at cX8_sign 1 (.getfield 29) 3 4 := by decide +kernel
theorem dX8_sign_4 : am_at cX8_sign 4 (.iconst 3) 1 5 := by decide +kernel
theorem dX8_sign_5 : am_at cX8_sign 5 (.if_icmp .ne 26) 3 8 := by decide +kernel
theorem dX8_sign_8 : am_at cX8_sign 8 (.aload_n 0) 1 9 := by decide +kernel
theorem dX8_sign_9 : am_at cX8_sign 9 (.getfield 32) 3 12 := by decide +kernel
theorem dX8_sign_12 : am_at cX8_sign 12 (.aload_n 0) 1 13 := by decide +kernel
theorem dX8_sign_13 : am_at cX8_sign 13 (.getfield 15) 3 16 := by decide +kernel
theorem dX8_sign_16 : am_at cX8_sign 16 (.if_icmp .ge 15) 3 19 := by decide +kernel
theorem dX8_sign_19 : am_at cX8_sign 19 (.aload_n 0) 1 20 := by decide +kernel
theorem dX8_sign_20 : am_at cX8_sign 20 (.getfield 9) 3 23 := by decide +kernel
theorem dX8_sign_23 : am_at cX8_sign 23 (.aload_n 0) 1 24 := by decide +kernel
theorem dX8_sign_24 : am_at cX8_sign 24 (.getfield 32) 3 27 := by decide +kernel
theorem dX8_sign_27 : am_at cX8_sign 27 (.iaload) 1 28 := by decide +kernel
theorem dX8_sign_28 : am_at cX8_sign 28 (.goto 4) 3 31 := by decide +kernel
theorem dX8_sign_31 : am_at cX8_sign 31 (.iconst (-1)) 1 32 := by decide +kernel
theorem dX8_sign_32 : am_at cX8_sign 32 (.ireturn) 1 33 := by decide +kernel
def fxX8_sign (l0 : Option Nat) (h : am_H) : Option (Int32 × am_H) := am_gd (am_ob h l0 8) (if (am_gi h l0 4) = (3 : Int32) then (am_gd (am_ob h l0 8) (am_gd (am_ob h l0 8) (if (am_gi h l0 1) ≤ (am_gi h l0 5) then (some ((-1 : Int32), h)) else (am_gd (am_ob h l0 8) (am_gd (am_ob h l0 8) (am_gd (am_ix h (am_gr h l0 0) 0 (am_gi h l0 5)) (some ((am_gi h (am_gr h l0 0) (am_gi h l0 5).toNatClampNeg), h)))))))) else (some ((-1 : Int32), h)))
set_option maxRecDepth 100000 in
theorem sxX8_sign {xs : List Int32} (l0 : Option Nat) (h : am_H) : am_Sm xs am_ci mX8_sign 0 0 0 0 [some (am_R l0)] [] h (fxX8_sign l0 h) := by
  unfold fxX8_sign
  refine am_aload_n dX8_sign_0 rfl ?_
  refine am_getI dX8_sign_1 fk_RX8_29 rfl ?_
  refine am_iconst (v := 3) dX8_sign_4 (by decide) ?_
  refine am_icmp_ne (tgt := 31) dX8_sign_5 (by decide) (fun c2 => ?_) (fun c2 => ?_)
  · refine am_iconst (v := (-1)) dX8_sign_31 (by decide) ?_
    exact am_iret dX8_sign_32 rfl rfl
  refine am_aload_n dX8_sign_8 rfl ?_
  refine am_getI dX8_sign_9 fk_RX8_32 rfl ?_
  refine am_aload_n dX8_sign_12 rfl ?_
  refine am_getI dX8_sign_13 fk_RX8_15 rfl ?_
  refine am_icmp_ge (tgt := 31) dX8_sign_16 (by decide) (fun c1 => ?_) (fun c1 => ?_)
  · refine am_iconst (v := (-1)) dX8_sign_31 (by decide) ?_
    exact am_iret dX8_sign_32 rfl rfl
  refine am_aload_n dX8_sign_19 rfl ?_
  refine am_getR dX8_sign_20 fk_RX8_9 rfl ?_
  refine am_aload_n dX8_sign_23 rfl ?_
  refine am_getI dX8_sign_24 fk_RX8_32 rfl ?_
  refine am_iald dX8_sign_27 ?_
  refine am_goto (tgt := 32) dX8_sign_28 (by decide) ?_
  exact am_iret dX8_sign_32 rfl rfl
theorem txX8_sign {xs : List Int32} (l0 : Option Nat) (h : am_H) (a : Int32) (h2 : am_H) (e : fxX8_sign l0 h = some (a, h2)) : am_Ct xs mX8_sign 0 0 0 [am_R l0] h (fun v h3 => v = am_ci a ∧ h3 = h2) := am_meth okX8_sign (Nat.le_of_ble_eq_true rfl) rfl (sxX8_sign l0 h) e
theorem dX8_wordIs_0 : am_at cX8_wordIs 0 (.aload_n 0) 1 1 := by decide +kernel
theorem dX8_wordIs_1 : am_at cX8_wordIs 1 (.getfield 29) 3 4 := by decide +kernel
theorem dX8_wordIs_4 : am_at cX8_wordIs 4 (.iconst 1) 1 5 := by decide +kernel
theorem dX8_wordIs_5 : am_at cX8_wordIs 5 (.if_icmp .ne 19) 3 8 := by decide +kernel
theorem dX8_wordIs_8 : am_at cX8_wordIs 8 (.aload_n 0) 1 9 := by decide +kernel
theorem dX8_wordIs_9 : am_at cX8_wordIs 9 (.getfield 35) 3 12 := by decide +kernel
theorem dX8_wordIs_12 : am_at cX8_wordIs 12 (.aload_n 0) 1 13 := by decide +kernel
theorem dX8_wordIs_13 : am_at cX8_wordIs 13 (.getfield 32) 3 16 := by decide +kernel
theorem dX8_wordIs_16 : am_at cX8_wordIs 16 (.isub) 1 17 := by decide +kernel
theorem dX8_wordIs_17 : am_at cX8_wordIs 17 (.aload_n 1) 1 18 := by decide +kernel
theorem dX8_wordIs_18 : am_at cX8_wordIs 18 (.invokevirtual 72) 3 21 := by decide +kernel
theorem dX8_wordIs_21 : am_at cX8_wordIs 21 (.if_icmp .eq 5) 3 24 := by decide +kernel
theorem dX8_wordIs_24 : am_at cX8_wordIs 24 (.iconst 0) 1 25 := by decide +kernel
theorem dX8_wordIs_25 : am_at cX8_wordIs 25 (.ireturn) 1 26 := by decide +kernel
theorem dX8_wordIs_26 : am_at cX8_wordIs 26 (.iconst 0) 1 27 := by decide +kernel
theorem dX8_wordIs_27 : am_at cX8_wordIs 27 (.istore_n 2) 1 28 := by decide +kernel
theorem dX8_wordIs_28 : am_at cX8_wordIs 28 (.iload_n 2) 1 29 := by decide +kernel
theorem dX8_wordIs_29 : am_at cX8_wordIs 29 (.aload_n 1) 1 30 := by decide +kernel
theorem dX8_wordIs_30 : am_at cX8_wordIs 30 (.invokevirtual 72) 3 33 := by decide +kernel
theorem dX8_wordIs_33 : am_at cX8_wordIs 33 (.if_icmp .ge 30) 3 36 := by decide +kernel
theorem dX8_wordIs_36 : am_at cX8_wordIs 36 (.aload_n 0) 1 37 := by decide +kernel
theorem dX8_wordIs_37 : am_at cX8_wordIs 37 (.getfield 9) 3 40 := by decide +kernel
theorem dX8_wordIs_40 : am_at cX8_wordIs 40 (.aload_n 0) 1 41 := by decide +kernel
theorem dX8_wordIs_41 : am_at cX8_wordIs 41 (.getfield 32) 3 44 := by decide +kernel
theorem dX8_wordIs_44 : am_at cX8_wordIs 44 (.iload_n 2) 1 45 := by decide +kernel
theorem dX8_wordIs_45 : am_at cX8_wordIs 45 (.iadd) 1 46 := by decide +kernel
theorem dX8_wordIs_46 : am_at cX8_wordIs 46 (.iaload) 1 47 := by decide +kernel
theorem dX8_wordIs_47 : am_at cX8_wordIs 47 (.aload_n 1) 1 48 := by decide +kernel
theorem dX8_wordIs_48 : am_at cX8_wordIs 48 (.iload_n 2) 1 49 := by decide +kernel
theorem dX8_wordIs_49 : am_at cX8_wordIs 49 (.invokevirtual 77) 3 52 := by decide +kernel
theorem dX8_wordIs_52 : am_at cX8_wordIs 52 (.if_icmp .eq 5) 3 55 := by decide +kernel
theorem dX8_wordIs_55 : am_at cX8_wordIs 55 (.iconst 0) 1 56 := by decide +kernel
theorem dX8_wordIs_56 : am_at cX8_wordIs 56 (.ireturn) 1 57 := by decide +kernel
theorem dX8_wordIs_57 : am_at cX8_wordIs 57 (.iinc 2 1) 3 60 := by decide +kernel
theorem dX8_wordIs_60 : am_at cX8_wordIs 60 (.goto (-32)) 3 63 := by decide +kernel
theorem dX8_wordIs_63 : am_at cX8_wordIs 63 (.iconst 1) 1 64 := by decide +kernel
theorem dX8_wordIs_64 : am_at cX8_wordIs 64 (.ireturn) 1 65 := by decide +kernel
def fxX8_wordIs_b28 : Nat → Option Nat → Nat → Int32 → am_H → Option (Int32 × am_H)
  | 0, _, _, _, _ => none
  | n + 1, l0, l1, l2, h => am_bd (fxJ0_length_8abf5 l1 h) (fun r6 h7 => if r6 ≤ l2 then (am_gd (am_bz (1 : Int32)) (some ((1 : Int32), h7))) else (am_gd (am_ob h7 l0 8) (am_gd (am_ob h7 l0 8) (am_gd (am_ix h7 (am_gr h7 l0 0) 0 ((am_gi h7 l0 5) + l2)) (am_bd (fxJ0_charAt_5068e l1 l2 h7) (fun r8 h9 => if (am_gi h7 (am_gr h7 l0 0) ((am_gi h7 l0 5) + l2).toNatClampNeg) = r8 then (am_lt (l2 + 1) (fun x10 => fxX8_wordIs_b28 n l0 l1 x10 h9)) else (am_gd (am_bz (0 : Int32)) (some ((0 : Int32), h9)))))))))
set_option maxRecDepth 100000 in
theorem sxX8_wordIs_b28 {xs : List Int32} : ∀ (n : Nat) (l0 : Option Nat) (l1 : Nat) (l2 : Int32) (h : am_H) (hbl1 : 2 ≤ l1 ∧ l1 < 8), am_Sm xs am_ci mX8_wordIs 4 0 0 28 [some (am_R l0), some (am_K l1), some (am_I l2)] [] h (fxX8_wordIs_b28 n l0 l1 l2 h) := by
  intro n
  induction n with
  | zero => intros; exact am_none
  | succ n ih =>
    intro l0 l1 l2 h hbl1
    rw [fxX8_wordIs_b28]
    refine am_iload_n dX8_wordIs_28 rfl ?_
    refine am_aload_n dX8_wordIs_29 rfl ?_
    refine am_callK (cvj := am_ci) (mtj := mJ0_length_8abf5) (dj := 1) (nj := 0) (rcj := 0) (rsj := 0) (rc' := 0) (rs' := 0) (st' := fun a9 => (am_I a9 :: [am_I l2])) hbl1.1 hbl1.2 rfl [] [am_I l2] dX8_wordIs_30 okJ0_length_8abf5 lk_RX8_72 (fun zA zH zE => txJ0_length_8abf5 l1 h hbl1 zA zH zE) rfl (fun _ => rfl) (by decide) rfl (Nat.le_of_ble_eq_true rfl) (by decide) (by decide) (fun r6 h7 => ?_)
    refine am_icmp_ge (tgt := 63) dX8_wordIs_33 (by decide) (fun c12 => ?_) (fun c12 => ?_)
    · refine am_iconst (v := 1) dX8_wordIs_63 (by decide) ?_
      exact am_zret dX8_wordIs_64 rfl rfl
    refine am_aload_n dX8_wordIs_36 rfl ?_
    refine am_getR dX8_wordIs_37 fk_RX8_9 rfl ?_
    refine am_aload_n dX8_wordIs_40 rfl ?_
    refine am_getI dX8_wordIs_41 fk_RX8_32 rfl ?_
    refine am_iload_n dX8_wordIs_44 rfl ?_
    refine am_iadd dX8_wordIs_45 ?_
    refine am_iald dX8_wordIs_46 ?_
    refine am_aload_n dX8_wordIs_47 rfl ?_
    refine am_iload_n dX8_wordIs_48 rfl ?_
    refine am_callK (cvj := am_ci) (mtj := mJ0_charAt_5068e) (dj := 3) (nj := 1) (rcj := 0) (rsj := 0) (rc' := 0) (rs' := 0) (st' := fun a9 => (am_I a9 :: [am_I (am_gi h7 (am_gr h7 l0 0) ((am_gi h7 l0 5) + l2).toNatClampNeg)])) hbl1.1 hbl1.2 rfl [am_I l2] [am_I (am_gi h7 (am_gr h7 l0 0) ((am_gi h7 l0 5) + l2).toNatClampNeg)] dX8_wordIs_49 okJ0_charAt_5068e lk_RX8_77 (fun zA zH zE => txJ0_charAt_5068e l1 l2 h7 hbl1 zA zH zE) rfl (fun _ => rfl) (by decide) rfl (Nat.le_of_ble_eq_true rfl) (by decide) (by decide) (fun r8 h9 => ?_)
    refine am_icmp_eq (tgt := 57) dX8_wordIs_52 (by decide) (fun c11 => ?_) (fun c11 => ?_)
    · refine am_iinc (v := 1) (LL := fun y9 => [some (am_R l0), some (am_K l1), some (am_I y9)]) dX8_wordIs_57 (by decide) rfl (by decide) (fun _ => rfl) (fun x10 => ?_)
      refine am_goto (tgt := 28) dX8_wordIs_60 (by decide) ?_
      exact am_weak (ih l0 l1 x10 h9 hbl1) ⟨rfl, ⟨rfl, ⟨rfl, trivial⟩⟩⟩ (Nat.le_refl _) (Nat.le_refl _)
    refine am_iconst (v := 0) dX8_wordIs_55 (by decide) ?_
    exact am_zret dX8_wordIs_56 rfl rfl
def fxX8_wordIs (l0 : Option Nat) (l1 : Nat) (h : am_H) : Option (Int32 × am_H) := am_gd (am_ob h l0 8) (if (am_gi h l0 4) = (1 : Int32) then (am_gd (am_ob h l0 8) (am_gd (am_ob h l0 8) (am_bd (fxJ0_length_8abf5 l1 h) (fun r1 h2 => if ((am_gi h l0 6) - (am_gi h l0 5)) = r1 then (am_lt (0 : Int32) (fun x3 => fxX8_wordIs_b28 am_F l0 l1 x3 h2)) else (am_gd (am_bz (0 : Int32)) (some ((0 : Int32), h2))))))) else (am_gd (am_bz (0 : Int32)) (some ((0 : Int32), h))))
set_option maxRecDepth 100000 in
theorem sxX8_wordIs {xs : List Int32} (l0 : Option Nat) (l1 : Nat) (h : am_H) (hbl1 : 2 ≤ l1 ∧ l1 < 8) : am_Sm xs am_ci mX8_wordIs 4 0 0 0 [some (am_R l0), some (am_K l1), none] [] h (fxX8_wordIs l0 l1 h) := by
  unfold fxX8_wordIs
  refine am_aload_n dX8_wordIs_0 rfl ?_
  refine am_getI dX8_wordIs_1 fk_RX8_29 rfl ?_
  refine am_iconst (v := 1) dX8_wordIs_4 (by decide) ?_
  refine am_icmp_ne (tgt := 24) dX8_wordIs_5 (by decide) (fun c5 => ?_) (fun c5 => ?_)
  · refine am_iconst (v := 0) dX8_wordIs_24 (by decide) ?_
    exact am_zret dX8_wordIs_25 rfl rfl
  refine am_aload_n dX8_wordIs_8 rfl ?_
  refine am_getI dX8_wordIs_9 fk_RX8_35 rfl ?_
  refine am_aload_n dX8_wordIs_12 rfl ?_
  refine am_getI dX8_wordIs_13 fk_RX8_32 rfl ?_
  refine am_isub dX8_wordIs_16 ?_
  refine am_aload_n dX8_wordIs_17 rfl ?_
  refine am_callK (cvj := am_ci) (mtj := mJ0_length_8abf5) (dj := 1) (nj := 0) (rcj := 0) (rsj := 0) (rc' := 0) (rs' := 0) (st' := fun a9 => (am_I a9 :: [am_I ((am_gi h l0 6) - (am_gi h l0 5))])) hbl1.1 hbl1.2 rfl [] [am_I ((am_gi h l0 6) - (am_gi h l0 5))] dX8_wordIs_18 okJ0_length_8abf5 lk_RX8_72 (fun zA zH zE => txJ0_length_8abf5 l1 h hbl1 zA zH zE) rfl (fun _ => rfl) (by decide) rfl (Nat.le_of_ble_eq_true rfl) (by decide) (by decide) (fun r1 h2 => ?_)
  refine am_icmp_eq (tgt := 26) dX8_wordIs_21 (by decide) (fun c4 => ?_) (fun c4 => ?_)
  · refine am_iconst (v := 0) dX8_wordIs_26 (by decide) ?_
    refine am_istore_n (LL := fun y9 => [some (am_R l0), some (am_K l1), some (am_I y9)]) dX8_wordIs_27 (by decide) (fun _ => rfl) (fun x3 => ?_)
    exact am_weak (sxX8_wordIs_b28 am_F l0 l1 x3 h2 hbl1) ⟨rfl, ⟨rfl, ⟨rfl, trivial⟩⟩⟩ (Nat.le_refl _) (Nat.le_refl _)
  refine am_iconst (v := 0) dX8_wordIs_24 (by decide) ?_
  exact am_zret dX8_wordIs_25 rfl rfl
theorem txX8_wordIs {xs : List Int32} (l0 : Option Nat) (l1 : Nat) (h : am_H) (hbl1 : 2 ≤ l1 ∧ l1 < 8) (a : Int32) (h2 : am_H) (e : fxX8_wordIs l0 l1 h = some (a, h2)) : am_Ct xs mX8_wordIs 4 0 0 [am_R l0, am_K l1] h (fun v h3 => v = am_ci a ∧ h3 = h2) := am_meth okX8_wordIs (Nat.le_of_ble_eq_true rfl) rfl (sxX8_wordIs l0 l1 h hbl1) e
theorem dX8_key_0 : am_at cX8_key 0 (.aload_n 0) 1 1 := by decide +kernel
theorem dX8_key_1 : am_at cX8_key 1 (.ldc 59) 2 3 := by decide +kernel
theorem dX8_key_3 : am_at cX8_key 3 (.invokevirtual 61) 3 6 := by decide +kernel
theorem dX8_key_6 : am_at cX8_key 6 (.ifCond .eq 14) 3 9 := by decide +kernel
theorem dX8_key_9 : am_at cX8_key 9 (.aload_n 0) 1 10 := by decide +kernel
theorem dX8_key_10 : am_at cX8_key 10 (.getfield 22) 3 13 := by decide +kernel
theorem dX8_key_13 : am_at cX8_key 13 (.iconst 0) 1 14 := by decide +kernel
theorem dX8_key_14 : am_at cX8_key 14 (.invokevirtual 65) 3 17 := by decide +kernel
theorem dX8_key_17 : am_at cX8_key 17 (.goto 47) 3 20 := by decide +kernel
theorem dX8_key_20 : am_at cX8_key 20 (.aload_n 0) 1 21 := by decide +kernel
theorem dX8_key_21 : am_at cX8_key 21 (.ldc 68) 2 23 := by decide +kernel
theorem dX8_key_23 : am_at cX8_key 23 (.invokevirtual 61) 3 26 := by decide +kernel
theorem dX8_key_26 : am_at cX8_key 26 (.ifCond .eq 14) 3 29 := by decide +kernel
theorem dX8_key_29 : am_at cX8_key 29 (.aload_n 0) 1 30 := by decide +kernel
theorem dX8_key_30 : am_at cX8_key 30 (.getfield 22) 3 33 := by decide +kernel
theorem dX8_key_33 : am_at cX8_key 33 (.iconst 1) 1 34 := by decide +kernel
theorem dX8_key_34 : am_at cX8_key 34 (.invokevirtual 65) 3 37 := by decide +kernel
theorem dX8_key_37 : am_at cX8_key 37 (.goto 27) 3 40 := by decide +kernel
theorem dX8_key_40 : am_at cX8_key 40 (.aload_n 0) 1 41 := by decide +kernel
theorem dX8_key_41 : am_at cX8_key 41 (.ldc 70) 2 43 := by decide +kernel
theorem dX8_key_43 : am_at cX8_key 43 (.invokevirtual 61) 3 46 := by decide +kernel
theorem dX8_key_46 : am_at cX8_key 46 (.ifCond .eq 14) 3 49 := by decide +kernel
theorem dX8_key_49 : am_at cX8_key 49 (.aload_n 0) 1 50 := by decide +kernel
theorem dX8_key_50 : am_at cX8_key 50 (.getfield 22) 3 53 := by decide +kernel
theorem dX8_key_53 : am_at cX8_key 53 (.iconst 2) 1 54 := by decide +kernel
theorem dX8_key_54 : am_at cX8_key 54 (.invokevirtual 65) 3 57 := by decide +kernel
theorem dX8_key_57 : am_at cX8_key 57 (.goto 7) 3 60 := by decide +kernel
theorem dX8_key_60 : am_at cX8_key 60 (.aload_n 0) 1 61 := by decide +kernel
theorem dX8_key_61 : am_at cX8_key 61 (.invokevirtual 52) 3 64 := by decide +kernel
theorem dX8_key_64 : am_at cX8_key 64 (.return_) 1 65 := by decide +kernel
def fxX8_key (l0 : Option Nat) (h : am_H) : Option (Unit × am_H) := am_gd (am_ob h l0 8) (am_bd (fxX8_wordIs l0 2 h) (fun r1 h2 => if r1 = 0 then (am_gd (am_ob h2 l0 8) (am_bd (fxX8_wordIs l0 3 h2) (fun r3 h4 => if r3 = 0 then (am_gd (am_ob h4 l0 8) (am_bd (fxX8_wordIs l0 4 h4) (fun r5 h6 => if r5 = 0 then (am_gd (am_ob h6 l0 8) (am_bd (fxX8_refuse l0 h6) (fun _ h7 => some ((), h7)))) else (am_gd (am_ob h6 l0 8) (am_gd (am_ob h6 (am_gr h6 l0 2) 3) (am_bd (fxX3_begin (am_gr h6 l0 2) (2 : Int32) h6) (fun _ h8 => some ((), h8)))))))) else (am_gd (am_ob h4 l0 8) (am_gd (am_ob h4 (am_gr h4 l0 2) 3) (am_bd (fxX3_begin (am_gr h4 l0 2) (1 : Int32) h4) (fun _ h10 => some ((), h10)))))))) else (am_gd (am_ob h2 l0 8) (am_gd (am_ob h2 (am_gr h2 l0 2) 3) (am_bd (fxX3_begin (am_gr h2 l0 2) (0 : Int32) h2) (fun _ h12 => some ((), h12)))))))
set_option maxRecDepth 100000 in
theorem sxX8_key {xs : List Int32} (l0 : Option Nat) (h : am_H) : am_Sm xs am_cu mX8_key 5 0 0 0 [some (am_R l0)] [] h (fxX8_key l0 h) := by
  unfold fxX8_key
  refine am_aload_n dX8_key_0 rfl ?_
  refine am_kldc (c := 0) dX8_key_1 (by decide) rfl rfl ?_
  refine am_callV (cvj := am_ci) (mtj := mX8_wordIs) (dj := 4) (nj := 1) (rcj := 0) (rsj := 0) (rc' := 0) (rs' := 0) (ci := 8) (st' := fun a9 => (am_I a9 :: [])) ⟨_, rfl, rfl⟩ [am_K 2] [] dX8_key_3 okX8_wordIs lk_RX8_61 (fun zA zH zE => txX8_wordIs l0 2 h ⟨by decide, by decide⟩ zA zH zE) rfl (fun _ => rfl) (by decide) rfl (Nat.le_of_ble_eq_true rfl) (by decide) (by decide) (fun r1 h2 => ?_)
  refine am_if_eq (tgt := 20) dX8_key_6 (by decide) (fun c13 => ?_) (fun c13 => ?_)
  · refine am_aload_n dX8_key_20 rfl ?_
    refine am_kldc (c := 1) dX8_key_21 (by decide) rfl rfl ?_
    refine am_callV (cvj := am_ci) (mtj := mX8_wordIs) (dj := 4) (nj := 1) (rcj := 0) (rsj := 0) (rc' := 0) (rs' := 0) (ci := 8) (st' := fun a9 => (am_I a9 :: [])) ⟨_, rfl, rfl⟩ [am_K 3] [] dX8_key_23 okX8_wordIs lk_RX8_61 (fun zA zH zE => txX8_wordIs l0 3 h2 ⟨by decide, by decide⟩ zA zH zE) rfl (fun _ => rfl) (by decide) rfl (Nat.le_of_ble_eq_true rfl) (by decide) (by decide) (fun r3 h4 => ?_)
    refine am_if_eq (tgt := 40) dX8_key_26 (by decide) (fun c11 => ?_) (fun c11 => ?_)
    · refine am_aload_n dX8_key_40 rfl ?_
      refine am_kldc (c := 2) dX8_key_41 (by decide) rfl rfl ?_
      refine am_callV (cvj := am_ci) (mtj := mX8_wordIs) (dj := 4) (nj := 1) (rcj := 0) (rsj := 0) (rc' := 0) (rs' := 0) (ci := 8) (st' := fun a9 => (am_I a9 :: [])) ⟨_, rfl, rfl⟩ [am_K 4] [] dX8_key_43 okX8_wordIs lk_RX8_61 (fun zA zH zE => txX8_wordIs l0 4 h4 ⟨by decide, by decide⟩ zA zH zE) rfl (fun _ => rfl) (by decide) rfl (Nat.le_of_ble_eq_true rfl) (by decide) (by decide) (fun r5 h6 => ?_)
      refine am_if_eq (tgt := 60) dX8_key_46 (by decide) (fun c9 => ?_) (fun c9 => ?_)
      · refine am_aload_n dX8_key_60 rfl ?_
        refine am_callV (cvj := am_cu) (mtj := mX8_refuse) (dj := 0) (nj := 0) (rcj := 0) (rsj := 0) (rc' := 0) (rs' := 0) (ci := 8) (st' := fun _ => []) ⟨_, rfl, rfl⟩ [] [] dX8_key_61 okX8_refuse lk_RX8_52 (fun zA zH zE => txX8_refuse l0 h6 zA zH zE) rfl (fun _ => rfl) (by decide) rfl (Nat.le_of_ble_eq_true rfl) (by decide) (by decide) (fun _ h7 => ?_)
        exact am_vret dX8_key_64 rfl rfl
      refine am_aload_n dX8_key_49 rfl ?_
      refine am_getR dX8_key_50 fk_RX8_22 rfl ?_
      refine am_iconst (v := 2) dX8_key_53 (by decide) ?_
      refine am_callV (cvj := am_cu) (mtj := mX3_begin) (dj := 0) (nj := 1) (rcj := 0) (rsj := 0) (rc' := 0) (rs' := 0) (ci := 3) (st' := fun _ => []) ⟨_, rfl, rfl⟩ [am_I (2 : Int32)] [] dX8_key_54 okX3_begin lk_RX8_65 (fun zA zH zE => txX3_begin (am_gr h6 l0 2) (2 : Int32) h6 zA zH zE) rfl (fun _ => rfl) (by decide) rfl (Nat.le_of_ble_eq_true rfl) (by decide) (by decide) (fun _ h8 => ?_)
      refine am_goto (tgt := 64) dX8_key_57 (by decide) ?_
      exact am_vret dX8_key_64 rfl rfl
    refine am_aload_n dX8_key_29 rfl ?_
    refine am_getR dX8_key_30 fk_RX8_22 rfl ?_
    refine am_iconst (v := 1) dX8_key_33 (by decide) ?_
    refine am_callV (cvj := am_cu) (mtj := mX3_begin) (dj := 0) (nj := 1) (rcj := 0) (rsj := 0) (rc' := 0) (rs' := 0) (ci := 3) (st' := fun _ => []) ⟨_, rfl, rfl⟩ [am_I (1 : Int32)] [] dX8_key_34 okX3_begin lk_RX8_65 (fun zA zH zE => txX3_begin (am_gr h4 l0 2) (1 : Int32) h4 zA zH zE) rfl (fun _ => rfl) (by decide) rfl (Nat.le_of_ble_eq_true rfl) (by decide) (by decide) (fun _ h10 => ?_)
    refine am_goto (tgt := 64) dX8_key_37 (by decide) ?_
    exact am_vret dX8_key_64 rfl rfl
  refine am_aload_n dX8_key_9 rfl ?_
  refine am_getR dX8_key_10 fk_RX8_22 rfl ?_
  refine am_iconst (v := 0) dX8_key_13 (by decide) ?_
  refine am_callV (cvj := am_cu) (mtj := mX3_begin) (dj := 0) (nj := 1) (rcj := 0) (rsj := 0) (rc' := 0) (rs' := 0) (ci := 3) (st' := fun _ => []) ⟨_, rfl, rfl⟩ [am_I (0 : Int32)] [] dX8_key_14 okX3_begin lk_RX8_65 (fun zA zH zE => txX3_begin (am_gr h2 l0 2) (0 : Int32) h2 zA zH zE) rfl (fun _ => rfl) (by decide) rfl (Nat.le_of_ble_eq_true rfl) (by decide) (by decide) (fun _ h12 => ?_)
  refine am_goto (tgt := 64) dX8_key_17 (by decide) ?_
  exact am_vret dX8_key_64 rfl rfl
theorem txX8_key {xs : List Int32} (l0 : Option Nat) (h : am_H) (a : Unit) (h2 : am_H) (e : fxX8_key l0 h = some (a, h2)) : am_Ct xs mX8_key 5 0 0 [am_R l0] h (fun v h3 => v = am_cu a ∧ h3 = h2) := am_meth okX8_key (Nat.le_of_ble_eq_true rfl) rfl (sxX8_key l0 h) e
theorem dX8_levelOf_0 : am_at cX8_levelOf 0 (.iload_n 0) 1 1 := by decide +kernel
theorem dX8_levelOf_1 : am_at cX8_levelOf 1 (.lookupswitch 93 #[(38, 85), (42, 91), (43, 89), (45, 89), (47, 91), (60, 87), (61, 87), (62, 87), (124, 83)]) 83 84 := by decide +kernel
theorem dX8_levelOf_84 : am_at cX8_levelOf 84 (.iconst 0) 1 85 := by decide +kernel
theorem dX8_levelOf_85 : am_at cX8_levelOf 85 (.ireturn) 1 86 := by decide +kernel
theorem dX8_levelOf_86 : am_at cX8_levelOf 86 (.iconst 1) 1 87 := by decide +kernel
theorem dX8_levelOf_87 : am_at cX8_levelOf 87 (.ireturn) 1 88 := by decide +kernel
theorem dX8_levelOf_88 : am_at cX8_levelOf 88 (.iconst 2) 1 89 := by decide +kernel
theorem dX8_levelOf_89 : am_at cX8_levelOf 89 (.ireturn) 1 90 := by decide +kernel
theorem dX8_levelOf_90 : am_at cX8_levelOf 90 (.iconst 3) 1 91 := by decide +kernel
theorem dX8_levelOf_91 : am_at cX8_levelOf 91 (.ireturn) 1 92 := by decide +kernel
theorem dX8_levelOf_92 : am_at cX8_levelOf 92 (.iconst 4) 1 93 := by decide +kernel
theorem dX8_levelOf_93 : am_at cX8_levelOf 93 (.ireturn) 1 94 := by decide +kernel
theorem dX8_levelOf_94 : am_at cX8_levelOf 94 (.iconst (-1)) 1 95 := by decide +kernel
theorem dX8_levelOf_95 : am_at cX8_levelOf 95 (.ireturn) 1 96 := by decide +kernel
def fxX8_levelOf (l0 : Int32) (h : am_H) : Option (Int32 × am_H) := if l0 = 38 then (some ((1 : Int32), h)) else (if l0 = 42 then (some ((4 : Int32), h)) else (if l0 = 43 then (some ((3 : Int32), h)) else (if l0 = 45 then (some ((3 : Int32), h)) else (if l0 = 47 then (some ((4 : Int32), h)) else (if l0 = 60 then (some ((2 : Int32), h)) else (if l0 = 61 then (some ((2 : Int32), h)) else (if l0 = 62 then (some ((2 : Int32), h)) else (if l0 = 124 then (some ((0 : Int32), h)) else (some ((-1 : Int32), h))))))))))
set_option maxRecDepth 100000 in
theorem sxX8_levelOf {xs : List Int32} (l0 : Int32) (h : am_H) : am_Sm xs am_ci mX8_levelOf 0 0 0 0 [some (am_I l0)] [] h (fxX8_levelOf l0 h) := by
  unfold fxX8_levelOf
  refine am_iload_n dX8_levelOf_0 rfl ?_
  refine am_lookup (cs := [(38, 86), (42, 92), (43, 90), (45, 90), (47, 92), (60, 88), (61, 88), (62, 88), (124, 84)]) (dt := 94) dX8_levelOf_1 (by decide +kernel) ?_
  refine am_sw_cons (fun c1 => ?_) (fun c1 => ?_)
  · refine am_iconst (v := 1) dX8_levelOf_86 (by decide) ?_
    exact am_iret dX8_levelOf_87 rfl rfl
  refine am_sw_cons (fun c2 => ?_) (fun c2 => ?_)
  · refine am_iconst (v := 4) dX8_levelOf_92 (by decide) ?_
    exact am_iret dX8_levelOf_93 rfl rfl
  refine am_sw_cons (fun c3 => ?_) (fun c3 => ?_)
  · refine am_iconst (v := 3) dX8_levelOf_90 (by decide) ?_
    exact am_iret dX8_levelOf_91 rfl rfl
  refine am_sw_cons (fun c4 => ?_) (fun c4 => ?_)
  · refine am_iconst (v := 3) dX8_levelOf_90 (by decide) ?_
    exact am_iret dX8_levelOf_91 rfl rfl
  refine am_sw_cons (fun c5 => ?_) (fun c5 => ?_)
  · refine am_iconst (v := 4) dX8_levelOf_92 (by decide) ?_
    exact am_iret dX8_levelOf_93 rfl rfl
  refine am_sw_cons (fun c6 => ?_) (fun c6 => ?_)
  · refine am_iconst (v := 2) dX8_levelOf_88 (by decide) ?_
    exact am_iret dX8_levelOf_89 rfl rfl
  refine am_sw_cons (fun c7 => ?_) (fun c7 => ?_)
  · refine am_iconst (v := 2) dX8_levelOf_88 (by decide) ?_
    exact am_iret dX8_levelOf_89 rfl rfl
  refine am_sw_cons (fun c8 => ?_) (fun c8 => ?_)
  · refine am_iconst (v := 2) dX8_levelOf_88 (by decide) ?_
    exact am_iret dX8_levelOf_89 rfl rfl
  refine am_sw_cons (fun c9 => ?_) (fun c9 => ?_)
  · refine am_iconst (v := 0) dX8_levelOf_84 (by decide) ?_
    exact am_iret dX8_levelOf_85 rfl rfl
  refine am_sw_nil ?_
  refine am_iconst (v := (-1)) dX8_levelOf_94 (by decide) ?_
  exact am_iret dX8_levelOf_95 rfl rfl
theorem txX8_levelOf {xs : List Int32} (l0 : Int32) (h : am_H) (a : Int32) (h2 : am_H) (e : fxX8_levelOf l0 h = some (a, h2)) : am_Ct xs mX8_levelOf 0 0 0 [am_I l0] h (fun v h3 => v = am_ci a ∧ h3 = h2) := am_meth okX8_levelOf (Nat.le_of_ble_eq_true rfl) rfl (sxX8_levelOf l0 h) e
theorem dX8_close_0 : am_at cX8_close 0 (.aload_n 0) 1 1 := by decide +kernel
theorem dX8_close_1 : am_at cX8_close 1 (.invokevirtual 85) 3 4 := by decide +kernel
theorem dX8_close_4 : am_at cX8_close 4 (.bipush 41) 2 6 := by decide +kernel
theorem dX8_close_6 : am_at cX8_close 6 (.if_icmp .ne 10) 3 9 := by decide +kernel
theorem dX8_close_9 : am_at cX8_close 9 (.aload_n 0) 1 10 := by decide +kernel
theorem dX8_close_10 : am_at cX8_close 10 (.invokevirtual 42) 3 13 := by decide +kernel
theorem dX8_close_13 : am_at cX8_close 13 (.goto 7) 3 16 := by decide +kernel
theorem dX8_close_16 : am_at cX8_close 16 (.aload_n 0) 1 17 := by decide +kernel
theorem dX8_close_17 : am_at cX8_close 17 (.invokevirtual 52) 3 20 := by decide +kernel
theorem dX8_close_20 : am_at cX8_close 20 (.return_) 1 21 := by decide +kernel
def fxX8_close (l0 : Option Nat) (h : am_H) : Option (Unit × am_H) := am_gd (am_ob h l0 8) (am_bd (fxX8_sign l0 h) (fun r1 h2 => if r1 = (41 : Int32) then (am_gd (am_ob h2 l0 8) (am_bd (fxX8_next l0 h2) (fun _ h4 => some ((), h4)))) else (am_gd (am_ob h2 l0 8) (am_bd (fxX8_refuse l0 h2) (fun _ h3 => some ((), h3))))))
set_option maxRecDepth 100000 in
theorem sxX8_close {xs : List Int32} (l0 : Option Nat) (h : am_H) : am_Sm xs am_cu mX8_close 2 0 0 0 [some (am_R l0)] [] h (fxX8_close l0 h) := by
  unfold fxX8_close
  refine am_aload_n dX8_close_0 rfl ?_
  refine am_callV (cvj := am_ci) (mtj := mX8_sign) (dj := 0) (nj := 0) (rcj := 0) (rsj := 0) (rc' := 0) (rs' := 0) (ci := 8) (st' := fun a9 => (am_I a9 :: [])) ⟨_, rfl, rfl⟩ [] [] dX8_close_1 okX8_sign lk_RX8_85 (fun zA zH zE => txX8_sign l0 h zA zH zE) rfl (fun _ => rfl) (by decide) rfl (Nat.le_of_ble_eq_true rfl) (by decide) (by decide) (fun r1 h2 => ?_)
  refine am_bipush (v := 41) dX8_close_4 (by decide) ?_
  refine am_icmp_ne (tgt := 16) dX8_close_6 (by decide) (fun c5 => ?_) (fun c5 => ?_)
  · refine am_aload_n dX8_close_16 rfl ?_
    refine am_callV (cvj := am_cu) (mtj := mX8_refuse) (dj := 0) (nj := 0) (rcj := 0) (rsj := 0) (rc' := 0) (rs' := 0) (ci := 8) (st' := fun _ => []) ⟨_, rfl, rfl⟩ [] [] dX8_close_17 okX8_refuse lk_RX8_52 (fun zA zH zE => txX8_refuse l0 h2 zA zH zE) rfl (fun _ => rfl) (by decide) rfl (Nat.le_of_ble_eq_true rfl) (by decide) (by decide) (fun _ h3 => ?_)
    exact am_vret dX8_close_20 rfl rfl
  refine am_aload_n dX8_close_9 rfl ?_
  refine am_callV (cvj := am_cu) (mtj := mX8_next) (dj := 1) (nj := 0) (rcj := 0) (rsj := 0) (rc' := 0) (rs' := 0) (ci := 8) (st' := fun _ => []) ⟨_, rfl, rfl⟩ [] [] dX8_close_10 okX8_next lk_RX8_42 (fun zA zH zE => txX8_next l0 h2 zA zH zE) rfl (fun _ => rfl) (by decide) rfl (Nat.le_of_ble_eq_true rfl) (by decide) (by decide) (fun _ h4 => ?_)
  refine am_goto (tgt := 20) dX8_close_13 (by decide) ?_
  exact am_vret dX8_close_20 rfl rfl
theorem txX8_close {xs : List Int32} (l0 : Option Nat) (h : am_H) (a : Unit) (h2 : am_H) (e : fxX8_close l0 h = some (a, h2)) : am_Ct xs mX8_close 2 0 0 [am_R l0] h (fun v h3 => v = am_cu a ∧ h3 = h2) := am_meth okX8_close (Nat.le_of_ble_eq_true rfl) rfl (sxX8_close l0 h) e
theorem dX8_number_0 : am_at cX8_number 0 (.iconst 0) 1 1 := by decide +kernel
theorem dX8_number_1 : am_at cX8_number 1 (.istore_n 1) 1 2 := by decide +kernel
theorem dX8_number_2 : am_at cX8_number 2 (.aload_n 0) 1 3 := by decide +kernel
theorem dX8_number_3 : am_at cX8_number 3 (.getfield 32) 3 6 := by decide +kernel
theorem dX8_number_6 : am_at cX8_number 6 (.istore_n 2) 1 7 := by decide +kernel
theorem dX8_number_7 : am_at cX8_number 7 (.iload_n 2) 1 8 := by decide +kernel
theorem dX8_number_8 : am_at cX8_number 8 (.aload_n 0) 1 9 := by decide +kernel
theorem dX8_number_9 : am_at cX8_number 9 (.getfield 35) 3 12 := by decide +kernel
theorem dX8_number_12 : am_at cX8_number 12 (.if_icmp .ge 32) 3 15 := by decide +kernel
theorem dX8_number_15 : am_at cX8_number 15 (.iload_n 2) 1 16 := by decide +kernel
theorem dX8_number_16 : am_at cX8_number 16 (.aload_n 0) 1 17 := by decide +kernel
theorem dX8_number_17 : am_at cX8_number 17 (.getfield 15) 3 20 := by decide +kernel
theorem dX8_number_20 : am_at cX8_number 20 (.if_icmp .ge 24) 3 23 := by decide +kernel
theorem dX8_number_23 : am_at cX8_number 23 (.iload_n 1) 1 24 := by decide +kernel
theorem dX8_number_24 : am_at cX8_number 24 (.bipush 10) 2 26 := by decide +kernel
theorem dX8_number_26 : am_at cX8_number 26 (.imul) 1 27 := by decide +kernel
theorem dX8_number_27 : am_at cX8_number 27 (.aload_n 0) 1 28 := by decide +kernel
theorem dX8_number_28 : am_at cX8_number 28 (.getfield 9) 3 31 := by decide +kernel
theorem dX8_number_31 : am_at cX8_number 31 (.iload_n 2) 1 32 := by decide +kernel
theorem dX8_number_32 : am_at cX8_number 32 (.iaload) 1 33 := by decide +kernel
theorem dX8_number_33 : am_at cX8_number 33 (.iadd) 1 34 := by decide +kernel
theorem dX8_number_34 : am_at cX8_number 34 (.bipush 48) 2 36 := by decide +kernel
theorem dX8_number_36 : am_at cX8_number 36 (.isub) 1 37 := by decide +kernel
theorem dX8_number_37 : am_at cX8_number 37 (.istore_n 1) 1 38 := by decide +kernel
theorem dX8_number_38 : am_at cX8_number 38 (.iinc 2 1) 3 41 := by decide +kernel
theorem dX8_number_41 : am_at cX8_number 41 (.goto (-34)) 3 44 := by decide +kernel
theorem dX8_number_44 : am_at cX8_number 44 (.iload_n 1) 1 45 := by decide +kernel
theorem dX8_number_45 : am_at cX8_number 45 (.ireturn) 1 46 := by decide +kernel
def fxX8_number_b7 : Nat → Option Nat → Int32 → Int32 → am_H → Option (Int32 × am_H)
  | 0, _, _, _, _ => none
  | n + 1, l0, l1, l2, h => am_gd (am_ob h l0 8) (if (am_gi h l0 6) ≤ l2 then (some (l1, h)) else (am_gd (am_ob h l0 8) (if (am_gi h l0 1) ≤ l2 then (some (l1, h)) else (am_gd (am_ob h l0 8) (am_gd (am_ix h (am_gr h l0 0) 0 l2) (am_lt (((l1 * (10 : Int32)) + (am_gi h (am_gr h l0 0) l2.toNatClampNeg)) - (48 : Int32)) (fun x3 => am_lt (l2 + 1) (fun x4 => fxX8_number_b7 n l0 x3 x4 h))))))))
set_option maxRecDepth 100000 in
theorem sxX8_number_b7 {xs : List Int32} : ∀ (n : Nat) (l0 : Option Nat) (l1 : Int32) (l2 : Int32) (h : am_H), am_Sm xs am_ci mX8_number 0 0 0 7 [some (am_R l0), some (am_I l1), some (am_I l2)] [] h (fxX8_number_b7 n l0 l1 l2 h) := by
  intro n
  induction n with
  | zero => intros; exact am_none
  | succ n ih =>
    intro l0 l1 l2 h
    rw [fxX8_number_b7]
    refine am_iload_n dX8_number_7 rfl ?_
    refine am_aload_n dX8_number_8 rfl ?_
    refine am_getI dX8_number_9 fk_RX8_35 rfl ?_
    refine am_icmp_ge (tgt := 44) dX8_number_12 (by decide) (fun c6 => ?_) (fun c6 => ?_)
    · refine am_iload_n dX8_number_44 rfl ?_
      exact am_iret dX8_number_45 rfl rfl
    refine am_iload_n dX8_number_15 rfl ?_
    refine am_aload_n dX8_number_16 rfl ?_
    refine am_getI dX8_number_17 fk_RX8_15 rfl ?_
    refine am_icmp_ge (tgt := 44) dX8_number_20 (by decide) (fun c5 => ?_) (fun c5 => ?_)
    · refine am_iload_n dX8_number_44 rfl ?_
      exact am_iret dX8_number_45 rfl rfl
    refine am_iload_n dX8_number_23 rfl ?_
    refine am_bipush (v := 10) dX8_number_24 (by decide) ?_
    refine am_imul dX8_number_26 ?_
    refine am_aload_n dX8_number_27 rfl ?_
    refine am_getR dX8_number_28 fk_RX8_9 rfl ?_
    refine am_iload_n dX8_number_31 rfl ?_
    refine am_iald dX8_number_32 ?_
    refine am_iadd dX8_number_33 ?_
    refine am_bipush (v := 48) dX8_number_34 (by decide) ?_
    refine am_isub dX8_number_36 ?_
    refine am_istore_n (LL := fun y9 => [some (am_R l0), some (am_I y9), some (am_I l2)]) dX8_number_37 (by decide) (fun _ => rfl) (fun x3 => ?_)
    refine am_iinc (v := 1) (LL := fun y9 => [some (am_R l0), some (am_I x3), some (am_I y9)]) dX8_number_38 (by decide) rfl (by decide) (fun _ => rfl) (fun x4 => ?_)
    refine am_goto (tgt := 7) dX8_number_41 (by decide) ?_
    exact am_weak (ih l0 x3 x4 h) ⟨rfl, ⟨rfl, ⟨rfl, trivial⟩⟩⟩ (Nat.le_refl _) (Nat.le_refl _)
def fxX8_number (l0 : Option Nat) (h : am_H) : Option (Int32 × am_H) := am_lt (0 : Int32) (fun x1 => am_gd (am_ob h l0 8) (am_lt (am_gi h l0 5) (fun x2 => fxX8_number_b7 am_F l0 x1 x2 h)))
set_option maxRecDepth 100000 in
theorem sxX8_number {xs : List Int32} (l0 : Option Nat) (h : am_H) : am_Sm xs am_ci mX8_number 0 0 0 0 [some (am_R l0), none, none] [] h (fxX8_number l0 h) := by
  unfold fxX8_number
  refine am_iconst (v := 0) dX8_number_0 (by decide) ?_
  refine am_istore_n (LL := fun y9 => [some (am_R l0), some (am_I y9), none]) dX8_number_1 (by decide) (fun _ => rfl) (fun x1 => ?_)
  refine am_aload_n dX8_number_2 rfl ?_
  refine am_getI dX8_number_3 fk_RX8_32 rfl ?_
  refine am_istore_n (LL := fun y9 => [some (am_R l0), some (am_I x1), some (am_I y9)]) dX8_number_6 (by decide) (fun _ => rfl) (fun x2 => ?_)
  exact am_weak (sxX8_number_b7 am_F l0 x1 x2 h) ⟨rfl, ⟨rfl, ⟨rfl, trivial⟩⟩⟩ (Nat.le_refl _) (Nat.le_refl _)
theorem txX8_number {xs : List Int32} (l0 : Option Nat) (h : am_H) (a : Int32) (h2 : am_H) (e : fxX8_number l0 h = some (a, h2)) : am_Ct xs mX8_number 0 0 0 [am_R l0] h (fun v h3 => v = am_ci a ∧ h3 = h2) := am_meth okX8_number (Nat.le_of_ble_eq_true rfl) rfl (sxX8_number l0 h) e
theorem dX8_names_0 : am_at cX8_names 0 (.iload_n 0) 1 1 := by decide +kernel
theorem dX8_names_1 : am_at cX8_names 1 (.lookupswitch 33 #[(0, 27), (1, 30)]) 27 28 := by decide +kernel
theorem dX8_names_28 : am_at cX8_names 28 (.ldc 115) 2 30 := by decide +kernel
theorem dX8_names_30 : am_at cX8_names 30 (.areturn) 1 31 := by decide +kernel
theorem dX8_names_31 : am_at cX8_names 31 (.ldc 117) 2 33 := by decide +kernel
theorem dX8_names_33 : am_at cX8_names 33 (.areturn) 1 34 := by decide +kernel
theorem dX8_names_34 : am_at cX8_names 34 (.ldc 119) 2 36 := by decide +kernel
theorem dX8_names_36 : am_at cX8_names 36 (.areturn) 1 37 := by decide +kernel
def fxX8_names (l0 : Int32) (h : am_H) : Option (Nat × am_H) := if l0 = 0 then (some (5, h)) else (if l0 = 1 then (some (6, h)) else (some (7, h)))
set_option maxRecDepth 100000 in
theorem sxX8_names {xs : List Int32} (l0 : Int32) (h : am_H) : am_Sm xs am_ck mX8_names 0 0 0 0 [some (am_I l0)] [] h (fxX8_names l0 h) := by
  unfold fxX8_names
  refine am_iload_n dX8_names_0 rfl ?_
  refine am_lookup (cs := [(0, 28), (1, 31)]) (dt := 34) dX8_names_1 (by decide +kernel) ?_
  refine am_sw_cons (fun c1 => ?_) (fun c1 => ?_)
  · refine am_kldc (c := 3) dX8_names_28 (by decide) rfl rfl ?_
    exact am_kret dX8_names_30 ⟨_, rfl⟩ rfl
  refine am_sw_cons (fun c2 => ?_) (fun c2 => ?_)
  · refine am_kldc (c := 4) dX8_names_31 (by decide) rfl rfl ?_
    exact am_kret dX8_names_33 ⟨_, rfl⟩ rfl
  refine am_sw_nil ?_
  refine am_kldc (c := 5) dX8_names_34 (by decide) rfl rfl ?_
  exact am_kret dX8_names_36 ⟨_, rfl⟩ rfl
theorem txX8_names {xs : List Int32} (l0 : Int32) (h : am_H) (a : Nat) (h2 : am_H) (e : fxX8_names l0 h = some (a, h2)) : am_Ct xs mX8_names 0 0 0 [am_I l0] h (fun v h3 => v = am_ck a ∧ h3 = h2) := am_meth okX8_names (Nat.le_of_ble_eq_true rfl) rfl (sxX8_names l0 h) e
theorem dX8_name_0 : am_at cX8_name 0 (.aload_n 0) 1 1 := by decide +kernel
theorem dX8_name_1 : am_at cX8_name 1 (.getfield 35) 3 4 := by decide +kernel
theorem dX8_name_4 : am_at cX8_name 4 (.aload_n 0) 1 5 := by decide +kernel
theorem dX8_name_5 : am_at cX8_name 5 (.getfield 32) 3 8 := by decide +kernel
theorem dX8_name_8 : am_at cX8_name 8 (.isub) 1 9 := by decide +kernel
theorem dX8_name_9 : am_at cX8_name 9 (.iconst 1) 1 10 := by decide +kernel
theorem dX8_name_10 : am_at cX8_name 10 (.if_icmp .ne 29) 3 13 := by decide +kernel
theorem dX8_name_13 : am_at cX8_name 13 (.aload_n 0) 1 14 := by decide +kernel
theorem dX8_name_14 : am_at cX8_name 14 (.getfield 22) 3 17 := by decide +kernel
theorem dX8_name_17 : am_at cX8_name 17 (.getfield 106) 3 20 := by decide +kernel
theorem dX8_name_20 : am_at cX8_name 20 (.invokestatic 108) 3 23 := by decide +kernel
theorem dX8_name_23 : am_at cX8_name 23 (.aload_n 0) 1 24 := by decide +kernel
theorem dX8_name_24 : am_at cX8_name 24 (.getfield 9) 3 27 := by decide +kernel
theorem dX8_name_27 : am_at cX8_name 27 (.aload_n 0) 1 28 := by decide +kernel
theorem dX8_name_28 : am_at cX8_name 28 (.getfield 32) 3 31 := by decide +kernel
theorem dX8_name_31 : am_at cX8_name 31 (.iaload) 1 32 := by decide +kernel
theorem dX8_name_32 : am_at cX8_name 32 (.i2c) 1 33 := by decide +kernel
theorem dX8_name_33 : am_at cX8_name 33 (.invokevirtual 112) 3 36 := by decide +kernel
theorem dX8_name_36 : am_at cX8_name 36 (.goto 4) 3 39 := by decide +kernel
theorem dX8_name_39 : am_at cX8_name 39 (.iconst (-1)) 1 40 := by decide +kernel
theorem dX8_name_40 : am_at cX8_name 40 (.istore_n 1) 1 41 := by decide +kernel
theorem dX8_name_41 : am_at cX8_name 41 (.iload_n 1) 1 42 := by decide +kernel
theorem dX8_name_42 : am_at cX8_name 42 (.ifCond .ge 8) 3 45 := by decide +kernel
theorem dX8_name_45 : am_at cX8_name 45 (.aload_n 0) 1 46 := by decide +kernel
theorem dX8_name_46 : am_at cX8_name 46 (.invokevirtual 52) 3 49 := by decide +kernel
theorem dX8_name_49 : am_at cX8_name 49 (.return_) 1 50 := by decide +kernel
theorem dX8_name_50 : am_at cX8_name 50 (.aload_n 0) 1 51 := by decide +kernel
theorem dX8_name_51 : am_at cX8_name 51 (.getfield 22) 3 54 := by decide +kernel
theorem dX8_name_54 : am_at cX8_name 54 (.iconst (-1)) 1 55 := by decide +kernel
theorem dX8_name_55 : am_at cX8_name 55 (.iload_n 1) 1 56 := by decide +kernel
theorem dX8_name_56 : am_at cX8_name 56 (.isub) 1 57 := by decide +kernel
theorem dX8_name_57 : am_at cX8_name 57 (.invokevirtual 97) 3 60 := by decide +kernel
theorem dX8_name_60 : am_at cX8_name 60 (.aload_n 0) 1 61 := by decide +kernel
theorem dX8_name_61 : am_at cX8_name 61 (.invokevirtual 42) 3 64 := by decide +kernel
theorem dX8_name_64 : am_at cX8_name 64 (.return_) 1 65 := by decide +kernel
def fxX8_name_b40 (l0 : Option Nat) (s0 : Int32) (h : am_H) : Option (Unit × am_H) := am_lt s0 (fun x6 => if 0 ≤ x6 then (am_gd (am_ob h l0 8) (am_gd (am_ob h (am_gr h l0 2) 3) (am_bd (fxX3_addOperand (am_gr h l0 2) ((-1 : Int32) - x6) h) (fun _ h7 => am_gd (am_ob h7 l0 8) (am_bd (fxX8_next l0 h7) (fun _ h8 => some ((), h8))))))) else (am_gd (am_ob h l0 8) (am_bd (fxX8_refuse l0 h) (fun _ h9 => some ((), h9)))))
set_option maxRecDepth 100000 in
theorem sxX8_name_b40 {xs : List Int32} (l0 : Option Nat) (s0 : Int32) (h : am_H) : am_Sm xs am_cu mX8_name 4 0 0 40 [some (am_R l0), none] [am_I s0] h (fxX8_name_b40 l0 s0 h) := by
  unfold fxX8_name_b40
  refine am_istore_n (LL := fun y9 => [some (am_R l0), some (am_I y9)]) dX8_name_40 (by decide) (fun _ => rfl) (fun x6 => ?_)
  refine am_iload_n dX8_name_41 rfl ?_
  refine am_if_ge (tgt := 50) dX8_name_42 (by decide) (fun c10 => ?_) (fun c10 => ?_)
  · refine am_aload_n dX8_name_50 rfl ?_
    refine am_getR dX8_name_51 fk_RX8_22 rfl ?_
    refine am_iconst (v := (-1)) dX8_name_54 (by decide) ?_
    refine am_iload_n dX8_name_55 rfl ?_
    refine am_isub dX8_name_56 ?_
    refine am_callV (cvj := am_cu) (mtj := mX3_addOperand) (dj := 1) (nj := 1) (rcj := 0) (rsj := 0) (rc' := 0) (rs' := 0) (ci := 3) (st' := fun _ => []) ⟨_, rfl, rfl⟩ [am_I ((-1 : Int32) - x6)] [] dX8_name_57 okX3_addOperand lk_RX8_97 (fun zA zH zE => txX3_addOperand (am_gr h l0 2) ((-1 : Int32) - x6) h zA zH zE) rfl (fun _ => rfl) (by decide) rfl (Nat.le_of_ble_eq_true rfl) (by decide) (by decide) (fun _ h7 => ?_)
    refine am_aload_n dX8_name_60 rfl ?_
    refine am_callV (cvj := am_cu) (mtj := mX8_next) (dj := 1) (nj := 0) (rcj := 0) (rsj := 0) (rc' := 0) (rs' := 0) (ci := 8) (st' := fun _ => []) ⟨_, rfl, rfl⟩ [] [] dX8_name_61 okX8_next lk_RX8_42 (fun zA zH zE => txX8_next l0 h7 zA zH zE) rfl (fun _ => rfl) (by decide) rfl (Nat.le_of_ble_eq_true rfl) (by decide) (by decide) (fun _ h8 => ?_)
    exact am_vret dX8_name_64 rfl rfl
  refine am_aload_n dX8_name_45 rfl ?_
  refine am_callV (cvj := am_cu) (mtj := mX8_refuse) (dj := 0) (nj := 0) (rcj := 0) (rsj := 0) (rc' := 0) (rs' := 0) (ci := 8) (st' := fun _ => []) ⟨_, rfl, rfl⟩ [] [] dX8_name_46 okX8_refuse lk_RX8_52 (fun zA zH zE => txX8_refuse l0 h zA zH zE) rfl (fun _ => rfl) (by decide) rfl (Nat.le_of_ble_eq_true rfl) (by decide) (by decide) (fun _ h9 => ?_)
  exact am_vret dX8_name_49 rfl rfl
def fxX8_name (l0 : Option Nat) (h : am_H) : Option (Unit × am_H) := am_gd (am_ob h l0 8) (am_gd (am_ob h l0 8) (if ((am_gi h l0 6) - (am_gi h l0 5)) = (1 : Int32) then (am_gd (am_ob h l0 8) (am_gd (am_ob h (am_gr h l0 2) 3) (am_bd (fxX8_names (am_gi h (am_gr h l0 2) 0) h) (fun r1 h2 => am_gd (am_ks r1) (am_gd (am_ob h2 l0 8) (am_gd (am_ob h2 l0 8) (am_gd (am_ix h2 (am_gr h2 l0 0) 0 (am_gi h2 l0 5)) (am_bd (fxJ0_indexOf_0f7a4 r1 (((am_gi h2 (am_gr h2 l0 0) (am_gi h2 l0 5).toNatClampNeg).toUInt32 % 65536).toInt32) h2) (fun r3 h4 => fxX8_name_b40 l0 r3 h4))))))))) else (fxX8_name_b40 l0 (-1 : Int32) h)))
set_option maxRecDepth 100000 in
theorem sxX8_name {xs : List Int32} (l0 : Option Nat) (h : am_H) : am_Sm xs am_cu mX8_name 4 0 0 0 [some (am_R l0), none] [] h (fxX8_name l0 h) := by
  unfold fxX8_name
  refine am_aload_n dX8_name_0 rfl ?_
  refine am_getI dX8_name_1 fk_RX8_35 rfl ?_
  refine am_aload_n dX8_name_4 rfl ?_
  refine am_getI dX8_name_5 fk_RX8_32 rfl ?_
  refine am_isub dX8_name_8 ?_
  refine am_iconst (v := 1) dX8_name_9 (by decide) ?_
  refine am_icmp_ne (tgt := 39) dX8_name_10 (by decide) (fun c5 => ?_) (fun c5 => ?_)
  · refine am_iconst (v := (-1)) dX8_name_39 (by decide) ?_
    exact am_weak (sxX8_name_b40 l0 (-1 : Int32) h) ⟨rfl, trivial⟩ (Nat.le_refl _) (Nat.le_refl _)
  refine am_aload_n dX8_name_13 rfl ?_
  refine am_getR dX8_name_14 fk_RX8_22 rfl ?_
  refine am_getI dX8_name_17 fk_RX8_106 rfl ?_
  refine am_callS (cvj := am_ck) (mtj := mX8_names) (dj := 0) (nj := 1) (rcj := 0) (rsj := 0) (rc' := 0) (rs' := 0) (st' := fun a9 => (am_K a9 :: [])) [am_I (am_gi h (am_gr h l0 2) 0)] [] dX8_name_20 okX8_names lk_RX8_108 (fun zA zH zE => txX8_names (am_gi h (am_gr h l0 2) 0) h zA zH zE) rfl (fun _ => rfl) (by decide) rfl (Nat.le_of_ble_eq_true rfl) (by decide) (by decide) (fun r1 h2 => ?_)
  refine am_kguard (cc := r1) (fun hbr1 => ?_)
  refine am_aload_n dX8_name_23 rfl ?_
  refine am_getR dX8_name_24 fk_RX8_9 rfl ?_
  refine am_aload_n dX8_name_27 rfl ?_
  refine am_getI dX8_name_28 fk_RX8_32 rfl ?_
  refine am_iald dX8_name_31 ?_
  refine am_i2c dX8_name_32 ?_
  refine am_callK (cvj := am_ci) (mtj := mJ0_indexOf_0f7a4) (dj := 3) (nj := 1) (rcj := 0) (rsj := 0) (rc' := 0) (rs' := 0) (st' := fun a9 => (am_I a9 :: [])) hbr1.1 hbr1.2 rfl [am_I (((am_gi h2 (am_gr h2 l0 0) (am_gi h2 l0 5).toNatClampNeg).toUInt32 % 65536).toInt32)] [] dX8_name_33 okJ0_indexOf_0f7a4 lk_RX8_112 (fun zA zH zE => txJ0_indexOf_0f7a4 r1 (((am_gi h2 (am_gr h2 l0 0) (am_gi h2 l0 5).toNatClampNeg).toUInt32 % 65536).toInt32) h2 hbr1 zA zH zE) rfl (fun _ => rfl) (by decide) rfl (Nat.le_of_ble_eq_true rfl) (by decide) (by decide) (fun r3 h4 => ?_)
  refine am_goto (tgt := 40) dX8_name_36 (by decide) ?_
  exact am_weak (sxX8_name_b40 l0 r3 h4) ⟨rfl, trivial⟩ (Nat.le_refl _) (Nat.le_refl _)
theorem txX8_name {xs : List Int32} (l0 : Option Nat) (h : am_H) (a : Unit) (h2 : am_H) (e : fxX8_name l0 h = some (a, h2)) : am_Ct xs mX8_name 4 0 0 [am_R l0] h (fun v h3 => v = am_cu a ∧ h3 = h2) := am_meth okX8_name (Nat.le_of_ble_eq_true rfl) rfl (sxX8_name l0 h) e
theorem dX9_glove_0 : am_at cX9_glove 0 (.iload_n 1) 1 1 := by decide +kernel
theorem dX9_glove_1 : am_at cX9_glove 1 (.invokestatic 76) 3 4 := by decide +kernel
theorem dX9_glove_4 : am_at cX9_glove 4 (.ifCond .eq 33) 3 7 := by decide +kernel
theorem dX9_glove_7 : am_at cX9_glove 7 (.iload_n 2) 1 8 := by decide +kernel
theorem dX9_glove_8 : am_at cX9_glove 8 (.iconst 0) 1 9 := by decide +kernel
theorem dX9_glove_9 : am_at cX9_glove 9 (.iconst 1) 1 10 := by decide +kernel
theorem dX9_glove_10 : am_at cX9_glove 10 (.invokestatic 80) 3 13 := by decide +kernel
theorem dX9_glove_13 : am_at cX9_glove 13 (.ifCond .eq 24) 3 16 := by decide +kernel
theorem dX9_glove_16 : am_at cX9_glove 16 (.iload_n 3) 1 17 := by decide +kernel
theorem dX9_glove_17 : am_at cX9_glove 17 (.iconst 0) 1 18 := by decide +kernel
theorem dX9_glove_18 : am_at cX9_glove 18 (.bipush 9) 2 20 := by decide +kernel
theorem dX9_glove_20 : am_at cX9_glove 20 (.invokestatic 80) 3 23 := by decide +kernel
theorem dX9_glove_23 : am_at cX9_glove 23 (.ifCond .eq 14) 3 26 := by decide +kernel
theorem dX9_glove_26 : am_at cX9_glove 26 (.iload 4) 2 28 := by decide +kernel
theorem dX9_glove_28 : am_at cX9_glove 28 (.iconst 0) 1 29 := by decide +kernel
theorem dX9_glove_29 : am_at cX9_glove 29 (.bipush 99) 2 31 := by decide +kernel
theorem dX9_glove_31 : am_at cX9_glove 31 (.invokestatic 80) 3 34 := by decide +kernel
theorem dX9_glove_34 : am_at cX9_glove 34 (.ifCond .ne 6) 3 37 := by decide +kernel
theorem dX9_glove_37 : am_at cX9_glove 37 (.ldc 84) 2 39 := by decide +kernel
theorem dX9_glove_39 : am_at cX9_glove 39 (.ireturn) 1 40 := by decide +kernel
theorem dX9_glove_40 : am_at cX9_glove 40 (.aload_n 0) 1 41 := by decide +kernel
theorem dX9_glove_41 : am_at cX9_glove 41 (.getfield 10) 3 44 := by decide +kernel
theorem dX9_glove_44 : am_at cX9_glove 44 (.iload_n 1) 1 45 := by decide +kernel
theorem dX9_glove_45 : am_at cX9_glove 45 (.iload_n 2) 1 46 := by decide +kernel
theorem dX9_glove_46 : am_at cX9_glove 46 (.iload_n 3) 1 47 := by decide +kernel
theorem dX9_glove_47 : am_at cX9_glove 47 (.iload 4) 2 49 := by decide +kernel
theorem dX9_glove_49 : am_at cX9_glove 49 (.invokevirtual 85) 3 52 := by decide +kernel
theorem dX9_glove_52 : am_at cX9_glove 52 (.ireturn) 1 53 := by decide +kernel
def fxX9_glove (l0 : Option Nat) (l1 : Int32) (l2 : Int32) (l3 : Int32) (l4 : Int32) (h : am_H) : Option (Int32 × am_H) := am_bd (fxX9_isKind l1 h) (fun r1 h2 => if r1 = 0 then (some ((-1000000001 : Int32), h2)) else (am_bd (fxX9_within l2 (0 : Int32) (1 : Int32) h2) (fun r3 h4 => if r3 = 0 then (some ((-1000000001 : Int32), h4)) else (am_bd (fxX9_within l3 (0 : Int32) (9 : Int32) h4) (fun r5 h6 => if r5 = 0 then (some ((-1000000001 : Int32), h6)) else (am_bd (fxX9_within l4 (0 : Int32) (99 : Int32) h6) (fun r7 h8 => if r7 = 0 then (some ((-1000000001 : Int32), h8)) else (am_gd (am_ob h8 l0 9) (am_gd (am_ob h8 (am_gr h8 l0 0) 2) (am_bd (fxX2_addGlove (am_gr h8 l0 0) l1 l2 l3 l4 h8) (fun r9 h10 => some (r9, h10))))))))))))
set_option maxRecDepth 100000 in
theorem sxX9_glove {xs : List Int32} (l0 : Option Nat) (l1 : Int32) (l2 : Int32) (l3 : Int32) (l4 : Int32) (h : am_H) : am_Sm xs am_ci mX9_glove 2 0 0 0 [some (am_R l0), some (am_I l1), some (am_I l2), some (am_I l3), some (am_I l4)] [] h (fxX9_glove l0 l1 l2 l3 l4 h) := by
  unfold fxX9_glove
  refine am_iload_n dX9_glove_0 rfl ?_
  refine am_callS (cvj := am_ci) (mtj := mX9_isKind) (dj := 1) (nj := 1) (rcj := 0) (rsj := 0) (rc' := 0) (rs' := 0) (st' := fun a9 => (am_I a9 :: [])) [am_I l1] [] dX9_glove_1 okX9_isKind lk_RX9_76 (fun zA zH zE => txX9_isKind l1 h zA zH zE) rfl (fun _ => rfl) (by decide) rfl (Nat.le_of_ble_eq_true rfl) (by decide) (by decide) (fun r1 h2 => ?_)
  refine am_if_eq (tgt := 37) dX9_glove_4 (by decide) (fun c14 => ?_) (fun c14 => ?_)
  · refine am_ldc (v := (-1000000001)) dX9_glove_37 wd316 ?_
    exact am_iret dX9_glove_39 rfl rfl
  refine am_iload_n dX9_glove_7 rfl ?_
  refine am_iconst (v := 0) dX9_glove_8 (by decide) ?_
  refine am_iconst (v := 1) dX9_glove_9 (by decide) ?_
  refine am_callS (cvj := am_ci) (mtj := mX9_within) (dj := 0) (nj := 3) (rcj := 0) (rsj := 0) (rc' := 0) (rs' := 0) (st' := fun a9 => (am_I a9 :: [])) [am_I l2, am_I (0 : Int32), am_I (1 : Int32)] [] dX9_glove_10 okX9_within lk_RX9_80 (fun zA zH zE => txX9_within l2 (0 : Int32) (1 : Int32) h2 zA zH zE) rfl (fun _ => rfl) (by decide) rfl (Nat.le_of_ble_eq_true rfl) (by decide) (by decide) (fun r3 h4 => ?_)
  refine am_if_eq (tgt := 37) dX9_glove_13 (by decide) (fun c13 => ?_) (fun c13 => ?_)
  · refine am_ldc (v := (-1000000001)) dX9_glove_37 wd316 ?_
    exact am_iret dX9_glove_39 rfl rfl
  refine am_iload_n dX9_glove_16 rfl ?_
  refine am_iconst (v := 0) dX9_glove_17 (by decide) ?_
  refine am_bipush (v := 9) dX9_glove_18 (by decide) ?_
  refine am_callS (cvj := am_ci) (mtj := mX9_within) (dj := 0) (nj := 3) (rcj := 0) (rsj := 0) (rc' := 0) (rs' := 0) (st' := fun a9 => (am_I a9 :: [])) [am_I l3, am_I (0 : Int32), am_I (9 : Int32)] [] dX9_glove_20 okX9_within lk_RX9_80 (fun zA zH zE => txX9_within l3 (0 : Int32) (9 : Int32) h4 zA zH zE) rfl (fun _ => rfl) (by decide) rfl (Nat.le_of_ble_eq_true rfl) (by decide) (by decide) (fun r5 h6 => ?_)
  refine am_if_eq (tgt := 37) dX9_glove_23 (by decide) (fun c12 => ?_) (fun c12 => ?_)
  · refine am_ldc (v := (-1000000001)) dX9_glove_37 wd316 ?_
    exact am_iret dX9_glove_39 rfl rfl
  refine am_iload dX9_glove_26 rfl ?_
  refine am_iconst (v := 0) dX9_glove_28 (by decide) ?_
  refine am_bipush (v := 99) dX9_glove_29 (by decide) ?_
  refine am_callS (cvj := am_ci) (mtj := mX9_within) (dj := 0) (nj := 3) (rcj := 0) (rsj := 0) (rc' := 0) (rs' := 0) (st' := fun a9 => (am_I a9 :: [])) [am_I l4, am_I (0 : Int32), am_I (99 : Int32)] [] dX9_glove_31 okX9_within lk_RX9_80 (fun zA zH zE => txX9_within l4 (0 : Int32) (99 : Int32) h6 zA zH zE) rfl (fun _ => rfl) (by decide) rfl (Nat.le_of_ble_eq_true rfl) (by decide) (by decide) (fun r7 h8 => ?_)
  refine am_if_ne (tgt := 40) dX9_glove_34 (by decide) (fun c11 => ?_) (fun c11 => ?_)
  · refine am_aload_n dX9_glove_40 rfl ?_
    refine am_getR dX9_glove_41 fk_RX9_10 rfl ?_
    refine am_iload_n dX9_glove_44 rfl ?_
    refine am_iload_n dX9_glove_45 rfl ?_
    refine am_iload_n dX9_glove_46 rfl ?_
    refine am_iload dX9_glove_47 rfl ?_
    refine am_callV (cvj := am_ci) (mtj := mX2_addGlove) (dj := 1) (nj := 4) (rcj := 0) (rsj := 0) (rc' := 0) (rs' := 0) (ci := 2) (st' := fun a9 => (am_I a9 :: [])) ⟨_, rfl, rfl⟩ [am_I l1, am_I l2, am_I l3, am_I l4] [] dX9_glove_49 okX2_addGlove lk_RX9_85 (fun zA zH zE => txX2_addGlove (am_gr h8 l0 0) l1 l2 l3 l4 h8 zA zH zE) rfl (fun _ => rfl) (by decide) rfl (Nat.le_of_ble_eq_true rfl) (by decide) (by decide) (fun r9 h10 => ?_)
    exact am_iret dX9_glove_52 rfl rfl
  refine am_ldc (v := (-1000000001)) dX9_glove_37 wd316 ?_
  exact am_iret dX9_glove_39 rfl rfl
theorem txX9_glove {xs : List Int32} (l0 : Option Nat) (l1 : Int32) (l2 : Int32) (l3 : Int32) (l4 : Int32) (h : am_H) (a : Int32) (h2 : am_H) (e : fxX9_glove l0 l1 l2 l3 l4 h = some (a, h2)) : am_Ct xs mX9_glove 2 0 0 [am_R l0, am_I l1, am_I l2, am_I l3, am_I l4] h (fun v h3 => v = am_ci a ∧ h3 = h2) := am_meth okX9_glove (Nat.le_of_ble_eq_true rfl) rfl (sxX9_glove l0 l1 l2 l3 l4 h) e
theorem dX9_told_0 : am_at cX9_told 0 (.aload_n 0) 1 1 := by decide +kernel
theorem dX9_told_1 : am_at cX9_told 1 (.getfield 10) 3 4 := by decide +kernel
theorem dX9_told_4 : am_at cX9_told 4 (.iload_n 1) 1 5 := by decide +kernel
theorem dX9_told_5 : am_at cX9_told 5 (.invokevirtual 89) 3 8 := by decide +kernel
theorem dX9_told_8 : am_at cX9_told 8 (.ifCond .ne 6) 3 11 := by decide +kernel
theorem dX9_told_11 : am_at cX9_told 11 (.ldc 84) 2 13 := by decide +kernel
theorem dX9_told_13 : am_at cX9_told 13 (.ireturn) 1 14 := by decide +kernel
theorem dX9_told_14 : am_at cX9_told 14 (.aload_n 0) 1 15 := by decide +kernel
theorem dX9_told_15 : am_at cX9_told 15 (.getfield 10) 3 18 := by decide +kernel
theorem dX9_told_18 : am_at cX9_told 18 (.getfield 92) 3 21 := by decide +kernel
theorem dX9_told_21 : am_at cX9_told 21 (.iload_n 1) 1 22 := by decide +kernel
theorem dX9_told_22 : am_at cX9_told 22 (.aaload) 1 23 := by decide +kernel
theorem dX9_told_23 : am_at cX9_told 23 (.astore_n 3) 1 24 := by decide +kernel
theorem dX9_told_24 : am_at cX9_told 24 (.iload_n 2) 1 25 := by decide +kernel
theorem dX9_told_25 : am_at cX9_told 25 (.lookupswitch 37 #[(0, 27), (6, 32)]) 27 52 := by decide +kernel
theorem dX9_told_52 : am_at cX9_told 52 (.aload_n 3) 1 53 := by decide +kernel
theorem dX9_told_53 : am_at cX9_told 53 (.getfield 96) 3 56 := by decide +kernel
theorem dX9_told_56 : am_at cX9_told 56 (.ireturn) 1 57 := by decide +kernel
theorem dX9_told_57 : am_at cX9_told 57 (.aload_n 3) 1 58 := by decide +kernel
theorem dX9_told_58 : am_at cX9_told 58 (.invokevirtual 101) 3 61 := by decide +kernel
theorem dX9_told_61 : am_at cX9_told 61 (.ireturn) 1 62 := by decide +kernel
theorem dX9_told_62 : am_at cX9_told 62 (.iload_n 2) 1 63 := by decide +kernel
theorem dX9_told_63 : am_at cX9_told 63 (.iconst 1) 1 64 := by decide +kernel
theorem dX9_told_64 : am_at cX9_told 64 (.iconst 5) 1 65 := by decide +kernel
theorem dX9_told_65 : am_at cX9_told 65 (.invokestatic 80) 3 68 := by decide +kernel
theorem dX9_told_68 : am_at cX9_told 68 (.ifCond .eq 11) 3 71 := by decide +kernel
theorem dX9_told_71 : am_at cX9_told 71 (.aload_n 3) 1 72 := by decide +kernel
theorem dX9_told_72 : am_at cX9_told 72 (.iload_n 2) 1 73 := by decide +kernel
theorem dX9_told_73 : am_at cX9_told 73 (.invokevirtual 105) 3 76 := by decide +kernel
theorem dX9_told_76 : am_at cX9_told 76 (.goto 5) 3 79 := by decide +kernel
theorem dX9_told_79 : am_at cX9_told 79 (.ldc 84) 2 81 := by decide +kernel
theorem dX9_told_81 : am_at cX9_told 81 (.ireturn) 1 82 := by decide +kernel
def fxX9_told (l0 : Option Nat) (l1 : Int32) (l2 : Int32) (h : am_H) : Option (Int32 × am_H) := am_gd (am_ob h l0 9) (am_gd (am_ob h (am_gr h l0 0) 2) (am_bd (fxX2_hasGlove (am_gr h l0 0) l1 h) (fun r1 h2 => if r1 = 0 then (some ((-1000000001 : Int32), h2)) else (am_gd (am_ob h2 l0 9) (am_gd (am_ob h2 (am_gr h2 l0 0) 2) (am_gd (am_ix h2 (am_gr h2 (am_gr h2 l0 0) 0) 3 l1) (am_lt (am_gr h2 (am_gr h2 (am_gr h2 l0 0) 0) l1.toNatClampNeg) (fun q3 => if l2 = 0 then (am_gd (am_ob h2 q3 1) (some ((am_gi h2 q3 0), h2))) else (if l2 = 6 then (am_gd (am_ob h2 q3 1) (am_bd (fxX1_worth q3 h2) (fun r5 h6 => some (r5, h6)))) else (am_bd (fxX9_within l2 (1 : Int32) (5 : Int32) h2) (fun r8 h9 => if r8 = 0 then (some ((-1000000001 : Int32), h9)) else (am_gd (am_ob h9 q3 1) (am_bd (fxX1_trait q3 l2 h9) (fun r10 h11 => some (r10, h11)))))))))))))))
set_option maxRecDepth 100000 in
theorem sxX9_told {xs : List Int32} (l0 : Option Nat) (l1 : Int32) (l2 : Int32) (h : am_H) : am_Sm xs am_ci mX9_told 2 0 0 0 [some (am_R l0), some (am_I l1), some (am_I l2), none] [] h (fxX9_told l0 l1 l2 h) := by
  unfold fxX9_told
  refine am_aload_n dX9_told_0 rfl ?_
  refine am_getR dX9_told_1 fk_RX9_10 rfl ?_
  refine am_iload_n dX9_told_4 rfl ?_
  refine am_callV (cvj := am_ci) (mtj := mX2_hasGlove) (dj := 1) (nj := 1) (rcj := 0) (rsj := 0) (rc' := 0) (rs' := 0) (ci := 2) (st' := fun a9 => (am_I a9 :: [])) ⟨_, rfl, rfl⟩ [am_I l1] [] dX9_told_5 okX2_hasGlove lk_RX9_89 (fun zA zH zE => txX2_hasGlove (am_gr h l0 0) l1 h zA zH zE) rfl (fun _ => rfl) (by decide) rfl (Nat.le_of_ble_eq_true rfl) (by decide) (by decide) (fun r1 h2 => ?_)
  refine am_if_ne (tgt := 14) dX9_told_8 (by decide) (fun c13 => ?_) (fun c13 => ?_)
  · refine am_aload_n dX9_told_14 rfl ?_
    refine am_getR dX9_told_15 fk_RX9_10 rfl ?_
    refine am_getR dX9_told_18 fk_RX9_92 rfl ?_
    refine am_iload_n dX9_told_21 rfl ?_
    refine am_aald (t := 3) dX9_told_22 (by decide) (by decide) ?_
    refine am_astore_n (LL := fun y9 => [some (am_R l0), some (am_I l1), some (am_I l2), some (am_R y9)]) dX9_told_23 (by decide) (fun _ => rfl) (fun q3 => ?_)
    refine am_iload_n dX9_told_24 rfl ?_
    refine am_lookup (cs := [(0, 52), (6, 57)]) (dt := 62) dX9_told_25 (by decide +kernel) ?_
    refine am_sw_cons (fun c4 => ?_) (fun c4 => ?_)
    · refine am_aload_n dX9_told_52 rfl ?_
      refine am_getI dX9_told_53 fk_RX9_96 rfl ?_
      exact am_iret dX9_told_56 rfl rfl
    refine am_sw_cons (fun c7 => ?_) (fun c7 => ?_)
    · refine am_aload_n dX9_told_57 rfl ?_
      refine am_callV (cvj := am_ci) (mtj := mX1_worth) (dj := 0) (nj := 0) (rcj := 0) (rsj := 0) (rc' := 0) (rs' := 0) (ci := 1) (st' := fun a9 => (am_I a9 :: [])) ⟨_, rfl, rfl⟩ [] [] dX9_told_58 okX1_worth lk_RX9_101 (fun zA zH zE => txX1_worth q3 h2 zA zH zE) rfl (fun _ => rfl) (by decide) rfl (Nat.le_of_ble_eq_true rfl) (by decide) (by decide) (fun r5 h6 => ?_)
      exact am_iret dX9_told_61 rfl rfl
    refine am_sw_nil ?_
    refine am_iload_n dX9_told_62 rfl ?_
    refine am_iconst (v := 1) dX9_told_63 (by decide) ?_
    refine am_iconst (v := 5) dX9_told_64 (by decide) ?_
    refine am_callS (cvj := am_ci) (mtj := mX9_within) (dj := 0) (nj := 3) (rcj := 0) (rsj := 0) (rc' := 0) (rs' := 0) (st' := fun a9 => (am_I a9 :: [])) [am_I l2, am_I (1 : Int32), am_I (5 : Int32)] [] dX9_told_65 okX9_within lk_RX9_80 (fun zA zH zE => txX9_within l2 (1 : Int32) (5 : Int32) h2 zA zH zE) rfl (fun _ => rfl) (by decide) rfl (Nat.le_of_ble_eq_true rfl) (by decide) (by decide) (fun r8 h9 => ?_)
    refine am_if_eq (tgt := 79) dX9_told_68 (by decide) (fun c12 => ?_) (fun c12 => ?_)
    · refine am_ldc (v := (-1000000001)) dX9_told_79 wd316 ?_
      exact am_iret dX9_told_81 rfl rfl
    refine am_aload_n dX9_told_71 rfl ?_
    refine am_iload_n dX9_told_72 rfl ?_
    refine am_callV (cvj := am_ci) (mtj := mX1_trait) (dj := 0) (nj := 1) (rcj := 0) (rsj := 0) (rc' := 0) (rs' := 0) (ci := 1) (st' := fun a9 => (am_I a9 :: [])) ⟨_, rfl, rfl⟩ [am_I l2] [] dX9_told_73 okX1_trait lk_RX9_105 (fun zA zH zE => txX1_trait q3 l2 h9 zA zH zE) rfl (fun _ => rfl) (by decide) rfl (Nat.le_of_ble_eq_true rfl) (by decide) (by decide) (fun r10 h11 => ?_)
    refine am_goto (tgt := 81) dX9_told_76 (by decide) ?_
    exact am_iret dX9_told_81 rfl rfl
  refine am_ldc (v := (-1000000001)) dX9_told_11 wd316 ?_
  exact am_iret dX9_told_13 rfl rfl
theorem txX9_told {xs : List Int32} (l0 : Option Nat) (l1 : Int32) (l2 : Int32) (h : am_H) (a : Int32) (h2 : am_H) (e : fxX9_told l0 l1 l2 h = some (a, h2)) : am_Ct xs mX9_told 2 0 0 [am_R l0, am_I l1, am_I l2] h (fun v h3 => v = am_ci a ∧ h3 = h2) := am_meth okX9_told (Nat.le_of_ble_eq_true rfl) rfl (sxX9_told l0 l1 l2 h) e
theorem dX9_as_0 : am_at cX9_as 0 (.aload_n 0) 1 1 := by decide +kernel
theorem dX9_as_1 : am_at cX9_as 1 (.getfield 10) 3 4 := by decide +kernel
theorem dX9_as_4 : am_at cX9_as 4 (.iload_n 1) 1 5 := by decide +kernel
theorem dX9_as_5 : am_at cX9_as 5 (.invokevirtual 89) 3 8 := by decide +kernel
theorem dX9_as_8 : am_at cX9_as 8 (.ifCond .eq 10) 3 11 := by decide +kernel
theorem dX9_as_11 : am_at cX9_as 11 (.iload_n 2) 1 12 := by decide +kernel
theorem dX9_as_12 : am_at cX9_as 12 (.invokestatic 76) 3 15 := by decide +kernel
theorem dX9_as_15 : am_at cX9_as 15 (.ifCond .ne 6) 3 18 := by decide +kernel
theorem dX9_as_18 : am_at cX9_as 18 (.ldc 84) 2 20 := by decide +kernel
theorem dX9_as_20 : am_at cX9_as 20 (.ireturn) 1 21 := by decide +kernel
theorem dX9_as_21 : am_at cX9_as 21 (.aload_n 0) 1 22 := by decide +kernel
theorem dX9_as_22 : am_at cX9_as 22 (.getfield 10) 3 25 := by decide +kernel
theorem dX9_as_25 : am_at cX9_as 25 (.getfield 92) 3 28 := by decide +kernel
theorem dX9_as_28 : am_at cX9_as 28 (.iload_n 1) 1 29 := by decide +kernel
theorem dX9_as_29 : am_at cX9_as 29 (.aaload) 1 30 := by decide +kernel
theorem dX9_as_30 : am_at cX9_as 30 (.astore_n 3) 1 31 := by decide +kernel
theorem dX9_as_31 : am_at cX9_as 31 (.aload_n 3) 1 32 := by decide +kernel
theorem dX9_as_32 : am_at cX9_as 32 (.iload_n 2) 1 33 := by decide +kernel
theorem dX9_as_33 : am_at cX9_as 33 (.invokevirtual 109) 3 36 := by decide +kernel
theorem dX9_as_36 : am_at cX9_as 36 (.ifCond .eq 10) 3 39 := by decide +kernel
theorem dX9_as_39 : am_at cX9_as 39 (.aload_n 3) 1 40 := by decide +kernel
theorem dX9_as_40 : am_at cX9_as 40 (.getfield 112) 3 43 := by decide +kernel
theorem dX9_as_43 : am_at cX9_as 43 (.goto 5) 3 46 := by decide +kernel
theorem dX9_as_46 : am_at cX9_as 46 (.ldc 115) 2 48 := by decide +kernel
theorem dX9_as_48 : am_at cX9_as 48 (.ireturn) 1 49 := by decide +kernel
def fxX9_as (l0 : Option Nat) (l1 : Int32) (l2 : Int32) (h : am_H) : Option (Int32 × am_H) := am_gd (am_ob h l0 9) (am_gd (am_ob h (am_gr h l0 0) 2) (am_bd (fxX2_hasGlove (am_gr h l0 0) l1 h) (fun r1 h2 => if r1 = 0 then (some ((-1000000001 : Int32), h2)) else (am_bd (fxX9_isKind l2 h2) (fun r3 h4 => if r3 = 0 then (some ((-1000000001 : Int32), h4)) else (am_gd (am_ob h4 l0 9) (am_gd (am_ob h4 (am_gr h4 l0 0) 2) (am_gd (am_ix h4 (am_gr h4 (am_gr h4 l0 0) 0) 3 l1) (am_lt (am_gr h4 (am_gr h4 (am_gr h4 l0 0) 0) l1.toNatClampNeg) (fun q5 => am_gd (am_ob h4 q5 1) (am_bd (fxX1_isOf q5 l2 h4) (fun r6 h7 => if r6 = 0 then (some ((-1000000012 : Int32), h7)) else (am_gd (am_ob h7 q5 1) (some ((am_gi h7 q5 3), h7)))))))))))))))
set_option maxRecDepth 100000 in
theorem sxX9_as {xs : List Int32} (l0 : Option Nat) (l1 : Int32) (l2 : Int32) (h : am_H) : am_Sm xs am_ci mX9_as 3 0 0 0 [some (am_R l0), some (am_I l1), some (am_I l2), none] [] h (fxX9_as l0 l1 l2 h) := by
  unfold fxX9_as
  refine am_aload_n dX9_as_0 rfl ?_
  refine am_getR dX9_as_1 fk_RX9_10 rfl ?_
  refine am_iload_n dX9_as_4 rfl ?_
  refine am_callV (cvj := am_ci) (mtj := mX2_hasGlove) (dj := 1) (nj := 1) (rcj := 0) (rsj := 0) (rc' := 0) (rs' := 0) (ci := 2) (st' := fun a9 => (am_I a9 :: [])) ⟨_, rfl, rfl⟩ [am_I l1] [] dX9_as_5 okX2_hasGlove lk_RX9_89 (fun zA zH zE => txX2_hasGlove (am_gr h l0 0) l1 h zA zH zE) rfl (fun _ => rfl) (by decide) rfl (Nat.le_of_ble_eq_true rfl) (by decide) (by decide) (fun r1 h2 => ?_)
  refine am_if_eq (tgt := 18) dX9_as_8 (by decide) (fun c10 => ?_) (fun c10 => ?_)
  · refine am_ldc (v := (-1000000001)) dX9_as_18 wd316 ?_
    exact am_iret dX9_as_20 rfl rfl
  refine am_iload_n dX9_as_11 rfl ?_
  refine am_callS (cvj := am_ci) (mtj := mX9_isKind) (dj := 1) (nj := 1) (rcj := 0) (rsj := 0) (rc' := 0) (rs' := 0) (st' := fun a9 => (am_I a9 :: [])) [am_I l2] [] dX9_as_12 okX9_isKind lk_RX9_76 (fun zA zH zE => txX9_isKind l2 h2 zA zH zE) rfl (fun _ => rfl) (by decide) rfl (Nat.le_of_ble_eq_true rfl) (by decide) (by decide) (fun r3 h4 => ?_)
  refine am_if_ne (tgt := 21) dX9_as_15 (by decide) (fun c9 => ?_) (fun c9 => ?_)
  · refine am_aload_n dX9_as_21 rfl ?_
    refine am_getR dX9_as_22 fk_RX9_10 rfl ?_
    refine am_getR dX9_as_25 fk_RX9_92 rfl ?_
    refine am_iload_n dX9_as_28 rfl ?_
    refine am_aald (t := 3) dX9_as_29 (by decide) (by decide) ?_
    refine am_astore_n (LL := fun y9 => [some (am_R l0), some (am_I l1), some (am_I l2), some (am_R y9)]) dX9_as_30 (by decide) (fun _ => rfl) (fun q5 => ?_)
    refine am_aload_n dX9_as_31 rfl ?_
    refine am_iload_n dX9_as_32 rfl ?_
    refine am_callV (cvj := am_ci) (mtj := mX1_isOf) (dj := 2) (nj := 1) (rcj := 0) (rsj := 0) (rc' := 0) (rs' := 0) (ci := 1) (st' := fun a9 => (am_I a9 :: [])) ⟨_, rfl, rfl⟩ [am_I l2] [] dX9_as_33 okX1_isOf lk_RX9_109 (fun zA zH zE => txX1_isOf q5 l2 h4 zA zH zE) rfl (fun _ => rfl) (by decide) rfl (Nat.le_of_ble_eq_true rfl) (by decide) (by decide) (fun r6 h7 => ?_)
    refine am_if_eq (tgt := 46) dX9_as_36 (by decide) (fun c8 => ?_) (fun c8 => ?_)
    · refine am_ldc (v := (-1000000012)) dX9_as_46 wd354 ?_
      exact am_iret dX9_as_48 rfl rfl
    refine am_aload_n dX9_as_39 rfl ?_
    refine am_getI dX9_as_40 fk_RX9_112 rfl ?_
    refine am_goto (tgt := 48) dX9_as_43 (by decide) ?_
    exact am_iret dX9_as_48 rfl rfl
  refine am_ldc (v := (-1000000001)) dX9_as_18 wd316 ?_
  exact am_iret dX9_as_20 rfl rfl
theorem txX9_as {xs : List Int32} (l0 : Option Nat) (l1 : Int32) (l2 : Int32) (h : am_H) (a : Int32) (h2 : am_H) (e : fxX9_as l0 l1 l2 h = some (a, h2)) : am_Ct xs mX9_as 3 0 0 [am_R l0, am_I l1, am_I l2] h (fun v h3 => v = am_ci a ∧ h3 = h2) := am_meth okX9_as (Nat.le_of_ble_eq_true rfl) rfl (sxX9_as l0 l1 l2 h) e
theorem dX9_turns_0 : am_at cX9_turns 0 (.aload_n 0) 1 1 := by decide +kernel
theorem dX9_turns_1 : am_at cX9_turns 1 (.getfield 10) 3 4 := by decide +kernel
theorem dX9_turns_4 : am_at cX9_turns 4 (.iload_n 1) 1 5 := by decide +kernel
theorem dX9_turns_5 : am_at cX9_turns 5 (.invokevirtual 89) 3 8 := by decide +kernel
theorem dX9_turns_8 : am_at cX9_turns 8 (.ifCond .eq 10) 3 11 := by decide +kernel
theorem dX9_turns_11 : am_at cX9_turns 11 (.iload_n 2) 1 12 := by decide +kernel
theorem dX9_turns_12 : am_at cX9_turns 12 (.invokestatic 76) 3 15 := by decide +kernel
theorem dX9_turns_15 : am_at cX9_turns 15 (.ifCond .ne 6) 3 18 := by decide +kernel
theorem dX9_turns_18 : am_at cX9_turns 18 (.ldc 84) 2 20 := by decide +kernel
theorem dX9_turns_20 : am_at cX9_turns 20 (.ireturn) 1 21 := by decide +kernel
theorem dX9_turns_21 : am_at cX9_turns 21 (.aload_n 0) 1 22 := by decide +kernel
theorem dX9_turns_22 : am_at cX9_turns 22 (.getfield 10) 3 25 := by decide +kernel
theorem dX9_turns_25 : am_at cX9_turns 25 (.getfield 92) 3 28 := by decide +kernel
theorem dX9_turns_28 : am_at cX9_turns 28 (.iload_n 1) 1 29 := by decide +kernel
theorem dX9_turns_29 : am_at cX9_turns 29 (.aaload) 1 30 := by decide +kernel
theorem dX9_turns_30 : am_at cX9_turns 30 (.astore_n 3) 1 31 := by decide +kernel
theorem dX9_turns_31 : am_at cX9_turns 31 (.aload_n 3) 1 32 := by decide +kernel
theorem dX9_turns_32 : am_at cX9_turns 32 (.getfield 96) 3 35 := by decide +kernel
theorem dX9_turns_35 : am_at cX9_turns 35 (.istore 4) 2 37 := by decide +kernel
theorem dX9_turns_37 : am_at cX9_turns 37 (.aload_n 3) 1 38 := by decide +kernel
theorem dX9_turns_38 : am_at cX9_turns 38 (.iload_n 2) 1 39 := by decide +kernel
theorem dX9_turns_39 : am_at cX9_turns 39 (.putfield 96) 3 42 := by decide +kernel
theorem dX9_turns_42 : am_at cX9_turns 42 (.iload 4) 2 44 := by decide +kernel
theorem dX9_turns_44 : am_at cX9_turns 44 (.ireturn) 1 45 := by decide +kernel
def fxX9_turns (l0 : Option Nat) (l1 : Int32) (l2 : Int32) (h : am_H) : Option (Int32 × am_H) := am_gd (am_ob h l0 9) (am_gd (am_ob h (am_gr h l0 0) 2) (am_bd (fxX2_hasGlove (am_gr h l0 0) l1 h) (fun r1 h2 => if r1 = 0 then (some ((-1000000001 : Int32), h2)) else (am_bd (fxX9_isKind l2 h2) (fun r3 h4 => if r3 = 0 then (some ((-1000000001 : Int32), h4)) else (am_gd (am_ob h4 l0 9) (am_gd (am_ob h4 (am_gr h4 l0 0) 2) (am_gd (am_ix h4 (am_gr h4 (am_gr h4 l0 0) 0) 3 l1) (am_lt (am_gr h4 (am_gr h4 (am_gr h4 l0 0) 0) l1.toNatClampNeg) (fun q5 => am_gd (am_ob h4 q5 1) (am_lt (am_gi h4 q5 0) (fun x6 => am_gd (am_ob h4 q5 1) (am_lt (am_si h4 q5 0 l2) (fun h7 => some (x6, h7)))))))))))))))
set_option maxRecDepth 100000 in
theorem sxX9_turns {xs : List Int32} (l0 : Option Nat) (l1 : Int32) (l2 : Int32) (h : am_H) : am_Sm xs am_ci mX9_turns 2 0 0 0 [some (am_R l0), some (am_I l1), some (am_I l2), none, none] [] h (fxX9_turns l0 l1 l2 h) := by
  unfold fxX9_turns
  refine am_aload_n dX9_turns_0 rfl ?_
  refine am_getR dX9_turns_1 fk_RX9_10 rfl ?_
  refine am_iload_n dX9_turns_4 rfl ?_
  refine am_callV (cvj := am_ci) (mtj := mX2_hasGlove) (dj := 1) (nj := 1) (rcj := 0) (rsj := 0) (rc' := 0) (rs' := 0) (ci := 2) (st' := fun a9 => (am_I a9 :: [])) ⟨_, rfl, rfl⟩ [am_I l1] [] dX9_turns_5 okX2_hasGlove lk_RX9_89 (fun zA zH zE => txX2_hasGlove (am_gr h l0 0) l1 h zA zH zE) rfl (fun _ => rfl) (by decide) rfl (Nat.le_of_ble_eq_true rfl) (by decide) (by decide) (fun r1 h2 => ?_)
  refine am_if_eq (tgt := 18) dX9_turns_8 (by decide) (fun c9 => ?_) (fun c9 => ?_)
  · refine am_ldc (v := (-1000000001)) dX9_turns_18 wd316 ?_
    exact am_iret dX9_turns_20 rfl rfl
  refine am_iload_n dX9_turns_11 rfl ?_
  refine am_callS (cvj := am_ci) (mtj := mX9_isKind) (dj := 1) (nj := 1) (rcj := 0) (rsj := 0) (rc' := 0) (rs' := 0) (st' := fun a9 => (am_I a9 :: [])) [am_I l2] [] dX9_turns_12 okX9_isKind lk_RX9_76 (fun zA zH zE => txX9_isKind l2 h2 zA zH zE) rfl (fun _ => rfl) (by decide) rfl (Nat.le_of_ble_eq_true rfl) (by decide) (by decide) (fun r3 h4 => ?_)
  refine am_if_ne (tgt := 21) dX9_turns_15 (by decide) (fun c8 => ?_) (fun c8 => ?_)
  · refine am_aload_n dX9_turns_21 rfl ?_
    refine am_getR dX9_turns_22 fk_RX9_10 rfl ?_
    refine am_getR dX9_turns_25 fk_RX9_92 rfl ?_
    refine am_iload_n dX9_turns_28 rfl ?_
    refine am_aald (t := 3) dX9_turns_29 (by decide) (by decide) ?_
    refine am_astore_n (LL := fun y9 => [some (am_R l0), some (am_I l1), some (am_I l2), some (am_R y9), none]) dX9_turns_30 (by decide) (fun _ => rfl) (fun q5 => ?_)
    refine am_aload_n dX9_turns_31 rfl ?_
    refine am_getI dX9_turns_32 fk_RX9_96 rfl ?_
    refine am_istore (LL := fun y9 => [some (am_R l0), some (am_I l1), some (am_I l2), some (am_R q5), some (am_I y9)]) dX9_turns_35 (by decide) (fun _ => rfl) (fun x6 => ?_)
    refine am_aload_n dX9_turns_37 rfl ?_
    refine am_iload_n dX9_turns_38 rfl ?_
    refine am_putI dX9_turns_39 fk_RX9_96 ⟨_, rfl, Or.inl rfl⟩ rfl (fun h7 => ?_)
    refine am_iload dX9_turns_42 rfl ?_
    exact am_iret dX9_turns_44 rfl rfl
  refine am_ldc (v := (-1000000001)) dX9_turns_18 wd316 ?_
  exact am_iret dX9_turns_20 rfl rfl
theorem txX9_turns {xs : List Int32} (l0 : Option Nat) (l1 : Int32) (l2 : Int32) (h : am_H) (a : Int32) (h2 : am_H) (e : fxX9_turns l0 l1 l2 h = some (a, h2)) : am_Ct xs mX9_turns 2 0 0 [am_R l0, am_I l1, am_I l2] h (fun v h3 => v = am_ci a ∧ h3 = h2) := am_meth okX9_turns (Nat.le_of_ble_eq_true rfl) rfl (sxX9_turns l0 l1 l2 h) e
theorem dX9_mostOfTrait_0 : am_at cX9_mostOfTrait 0 (.iload_n 0) 1 1 := by decide +kernel
theorem dX9_mostOfTrait_1 : am_at cX9_mostOfTrait 1 (.tableswitch 36 2 4 #[27, 30, 33]) 27 28 := by decide +kernel
theorem dX9_mostOfTrait_28 : am_at cX9_mostOfTrait 28 (.bipush 9) 2 30 := by decide +kernel
theorem dX9_mostOfTrait_30 : am_at cX9_mostOfTrait 30 (.ireturn) 1 31 := by decide +kernel
theorem dX9_mostOfTrait_31 : am_at cX9_mostOfTrait 31 (.bipush 99) 2 33 := by decide +kernel
theorem dX9_mostOfTrait_33 : am_at cX9_mostOfTrait 33 (.ireturn) 1 34 := by decide +kernel
theorem dX9_mostOfTrait_34 : am_at cX9_mostOfTrait 34 (.bipush 99) 2 36 := by decide +kernel
theorem dX9_mostOfTrait_36 : am_at cX9_mostOfTrait 36 (.ireturn) 1 37 := by decide +kernel
theorem dX9_mostOfTrait_37 : am_at cX9_mostOfTrait 37 (.iconst 1) 1 38 := by decide +kernel
theorem dX9_mostOfTrait_38 : am_at cX9_mostOfTrait 38 (.ireturn) 1 39 := by decide +kernel
def fxX9_mostOfTrait (l0 : Int32) (h : am_H) : Option (Int32 × am_H) := if l0 = 2 then (some ((9 : Int32), h)) else (if l0 = 3 then (some ((99 : Int32), h)) else (if l0 = 4 then (some ((99 : Int32), h)) else (some ((1 : Int32), h))))
set_option maxRecDepth 100000 in
theorem sxX9_mostOfTrait {xs : List Int32} (l0 : Int32) (h : am_H) : am_Sm xs am_ci mX9_mostOfTrait 0 0 0 0 [some (am_I l0)] [] h (fxX9_mostOfTrait l0 h) := by
  unfold fxX9_mostOfTrait
  refine am_iload_n dX9_mostOfTrait_0 rfl ?_
  refine am_table (cs := [(2, 28), (3, 31), (4, 34)]) (dt := 37) dX9_mostOfTrait_1 (by decide +kernel) ?_
  refine am_sw_cons (fun c1 => ?_) (fun c1 => ?_)
  · refine am_bipush (v := 9) dX9_mostOfTrait_28 (by decide) ?_
    exact am_iret dX9_mostOfTrait_30 rfl rfl
  refine am_sw_cons (fun c2 => ?_) (fun c2 => ?_)
  · refine am_bipush (v := 99) dX9_mostOfTrait_31 (by decide) ?_
    exact am_iret dX9_mostOfTrait_33 rfl rfl
  refine am_sw_cons (fun c3 => ?_) (fun c3 => ?_)
  · refine am_bipush (v := 99) dX9_mostOfTrait_34 (by decide) ?_
    exact am_iret dX9_mostOfTrait_36 rfl rfl
  refine am_sw_nil ?_
  refine am_iconst (v := 1) dX9_mostOfTrait_37 (by decide) ?_
  exact am_iret dX9_mostOfTrait_38 rfl rfl
theorem txX9_mostOfTrait {xs : List Int32} (l0 : Int32) (h : am_H) (a : Int32) (h2 : am_H) (e : fxX9_mostOfTrait l0 h = some (a, h2)) : am_Ct xs mX9_mostOfTrait 0 0 0 [am_I l0] h (fun v h3 => v = am_ci a ∧ h3 = h2) := am_meth okX9_mostOfTrait (Nat.le_of_ble_eq_true rfl) rfl (sxX9_mostOfTrait l0 h) e
theorem dX9_set_0 : am_at cX9_set 0 (.aload_n 0) 1 1 := by decide +kernel
theorem dX9_set_1 : am_at cX9_set 1 (.getfield 10) 3 4 := by decide +kernel
theorem dX9_set_4 : am_at cX9_set 4 (.iload_n 1) 1 5 := by decide +kernel
theorem dX9_set_5 : am_at cX9_set 5 (.invokevirtual 89) 3 8 := by decide +kernel
theorem dX9_set_8 : am_at cX9_set 8 (.ifCond .eq 24) 3 11 := by decide +kernel
theorem dX9_set_11 : am_at cX9_set 11 (.iload_n 2) 1 12 := by decide +kernel
theorem dX9_set_12 : am_at cX9_set 12 (.iconst 1) 1 13 := by decide +kernel
theorem dX9_set_13 : am_at cX9_set 13 (.iconst 5) 1 14 := by decide +kernel
theorem dX9_set_14 : am_at cX9_set 14 (.invokestatic 80) 3 17 := by decide +kernel
theorem dX9_set_17 : am_at cX9_set 17 (.ifCond .eq 15) 3 20 := by decide +kernel
theorem dX9_set_20 : am_at cX9_set 20 (.iload_n 3) 1 21 := by decide +kernel
theorem dX9_set_21 : am_at cX9_set 21 (.iconst 0) 1 22 := by decide +kernel
theorem dX9_set_22 : am_at cX9_set 22 (.iload_n 2) 1 23 := by decide +kernel
theorem dX9_set_23 : am_at cX9_set 23 (.invokestatic 116) 3 26 := by decide +kernel
theorem dX9_set_26 : am_at cX9_set 26 (.invokestatic 80) 3 29 := by decide +kernel
theorem dX9_set_29 : am_at cX9_set 29 (.ifCond .ne 6) 3 32 := by decide +kernel
theorem dX9_set_32 : am_at cX9_set 32 (.ldc 84) 2 34 := by decide +kernel
theorem dX9_set_34 : am_at cX9_set 34 (.ireturn) 1 35 := by decide +kernel
theorem dX9_set_35 : am_at cX9_set 35 (.aload_n 0) 1 36 := by decide +kernel
theorem dX9_set_36 : am_at cX9_set 36 (.getfield 10) 3 39 := by decide +kernel
theorem dX9_set_39 : am_at cX9_set 39 (.getfield 92) 3 42 := by decide +kernel
theorem dX9_set_42 : am_at cX9_set 42 (.iload_n 1) 1 43 := by decide +kernel
theorem dX9_set_43 : am_at cX9_set 43 (.aaload) 1 44 := by decide +kernel
theorem dX9_set_44 : am_at cX9_set 44 (.astore 4) 2 46 := by decide +kernel
theorem dX9_set_46 : am_at cX9_set 46 (.aload 4) 2 48 := by decide +kernel
theorem dX9_set_48 : am_at cX9_set 48 (.iload_n 2) 1 49 := by decide +kernel
theorem dX9_set_49 : am_at cX9_set 49 (.invokevirtual 105) 3 52 := by decide +kernel
theorem dX9_set_52 : am_at cX9_set 52 (.istore 5) 2 54 := by decide +kernel
theorem dX9_set_54 : am_at cX9_set 54 (.aload 4) 2 56 := by decide +kernel
theorem dX9_set_56 : am_at cX9_set 56 (.iload_n 2) 1 57 := by decide +kernel
theorem dX9_set_57 : am_at cX9_set 57 (.iload_n 3) 1 58 := by decide +kernel
theorem dX9_set_58 : am_at cX9_set 58 (.invokevirtual 119) 3 61 := by decide +kernel
theorem dX9_set_61 : am_at cX9_set 61 (.iload 5) 2 63 := by decide +kernel
theorem dX9_set_63 : am_at cX9_set 63 (.ireturn) 1 64 := by decide +kernel
def fxX9_set (l0 : Option Nat) (l1 : Int32) (l2 : Int32) (l3 : Int32) (h : am_H) : Option (Int32 × am_H) := am_gd (am_ob h l0 9) (am_gd (am_ob h (am_gr h l0 0) 2) (am_bd (fxX2_hasGlove (am_gr h l0 0) l1 h) (fun r1 h2 => if r1 = 0 then (some ((-1000000001 : Int32), h2)) else (am_bd (fxX9_within l2 (1 : Int32) (5 : Int32) h2) (fun r3 h4 => if r3 = 0 then (some ((-1000000001 : Int32), h4)) else (am_bd (fxX9_mostOfTrait l2 h4) (fun r5 h6 => am_bd (fxX9_within l3 (0 : Int32) r5 h6) (fun r7 h8 => if r7 = 0 then (some ((-1000000001 : Int32), h8)) else (am_gd (am_ob h8 l0 9) (am_gd (am_ob h8 (am_gr h8 l0 0) 2) (am_gd (am_ix h8 (am_gr h8 (am_gr h8 l0 0) 0) 3 l1) (am_lt (am_gr h8 (am_gr h8 (am_gr h8 l0 0) 0) l1.toNatClampNeg) (fun q9 => am_gd (am_ob h8 q9 1) (am_bd (fxX1_trait q9 l2 h8) (fun r10 h11 => am_lt r10 (fun x12 => am_gd (am_ob h11 q9 1) (am_bd (fxX1_changeTrait q9 l2 l3 h11) (fun _ h13 => some (x12, h13)))))))))))))))))))
set_option maxRecDepth 100000 in
theorem sxX9_set {xs : List Int32} (l0 : Option Nat) (l1 : Int32) (l2 : Int32) (l3 : Int32) (h : am_H) : am_Sm xs am_ci mX9_set 2 0 0 0 [some (am_R l0), some (am_I l1), some (am_I l2), some (am_I l3), none, none] [] h (fxX9_set l0 l1 l2 l3 h) := by
  unfold fxX9_set
  refine am_aload_n dX9_set_0 rfl ?_
  refine am_getR dX9_set_1 fk_RX9_10 rfl ?_
  refine am_iload_n dX9_set_4 rfl ?_
  refine am_callV (cvj := am_ci) (mtj := mX2_hasGlove) (dj := 1) (nj := 1) (rcj := 0) (rsj := 0) (rc' := 0) (rs' := 0) (ci := 2) (st' := fun a9 => (am_I a9 :: [])) ⟨_, rfl, rfl⟩ [am_I l1] [] dX9_set_5 okX2_hasGlove lk_RX9_89 (fun zA zH zE => txX2_hasGlove (am_gr h l0 0) l1 h zA zH zE) rfl (fun _ => rfl) (by decide) rfl (Nat.le_of_ble_eq_true rfl) (by decide) (by decide) (fun r1 h2 => ?_)
  refine am_if_eq (tgt := 32) dX9_set_8 (by decide) (fun c16 => ?_) (fun c16 => ?_)
  · refine am_ldc (v := (-1000000001)) dX9_set_32 wd316 ?_
    exact am_iret dX9_set_34 rfl rfl
  refine am_iload_n dX9_set_11 rfl ?_
  refine am_iconst (v := 1) dX9_set_12 (by decide) ?_
  refine am_iconst (v := 5) dX9_set_13 (by decide) ?_
  refine am_callS (cvj := am_ci) (mtj := mX9_within) (dj := 0) (nj := 3) (rcj := 0) (rsj := 0) (rc' := 0) (rs' := 0) (st' := fun a9 => (am_I a9 :: [])) [am_I l2, am_I (1 : Int32), am_I (5 : Int32)] [] dX9_set_14 okX9_within lk_RX9_80 (fun zA zH zE => txX9_within l2 (1 : Int32) (5 : Int32) h2 zA zH zE) rfl (fun _ => rfl) (by decide) rfl (Nat.le_of_ble_eq_true rfl) (by decide) (by decide) (fun r3 h4 => ?_)
  refine am_if_eq (tgt := 32) dX9_set_17 (by decide) (fun c15 => ?_) (fun c15 => ?_)
  · refine am_ldc (v := (-1000000001)) dX9_set_32 wd316 ?_
    exact am_iret dX9_set_34 rfl rfl
  refine am_iload_n dX9_set_20 rfl ?_
  refine am_iconst (v := 0) dX9_set_21 (by decide) ?_
  refine am_iload_n dX9_set_22 rfl ?_
  refine am_callS (cvj := am_ci) (mtj := mX9_mostOfTrait) (dj := 0) (nj := 1) (rcj := 0) (rsj := 0) (rc' := 0) (rs' := 0) (st' := fun a9 => (am_I a9 :: [am_I (0 : Int32), am_I l3])) [am_I l2] [am_I (0 : Int32), am_I l3] dX9_set_23 okX9_mostOfTrait lk_RX9_116 (fun zA zH zE => txX9_mostOfTrait l2 h4 zA zH zE) rfl (fun _ => rfl) (by decide) rfl (Nat.le_of_ble_eq_true rfl) (by decide) (by decide) (fun r5 h6 => ?_)
  refine am_callS (cvj := am_ci) (mtj := mX9_within) (dj := 0) (nj := 3) (rcj := 0) (rsj := 0) (rc' := 0) (rs' := 0) (st' := fun a9 => (am_I a9 :: [])) [am_I l3, am_I (0 : Int32), am_I r5] [] dX9_set_26 okX9_within lk_RX9_80 (fun zA zH zE => txX9_within l3 (0 : Int32) r5 h6 zA zH zE) rfl (fun _ => rfl) (by decide) rfl (Nat.le_of_ble_eq_true rfl) (by decide) (by decide) (fun r7 h8 => ?_)
  refine am_if_ne (tgt := 35) dX9_set_29 (by decide) (fun c14 => ?_) (fun c14 => ?_)
  · refine am_aload_n dX9_set_35 rfl ?_
    refine am_getR dX9_set_36 fk_RX9_10 rfl ?_
    refine am_getR dX9_set_39 fk_RX9_92 rfl ?_
    refine am_iload_n dX9_set_42 rfl ?_
    refine am_aald (t := 3) dX9_set_43 (by decide) (by decide) ?_
    refine am_astore (LL := fun y9 => [some (am_R l0), some (am_I l1), some (am_I l2), some (am_I l3), some (am_R y9), none]) dX9_set_44 (by decide) (fun _ => rfl) (fun q9 => ?_)
    refine am_aload dX9_set_46 rfl ?_
    refine am_iload_n dX9_set_48 rfl ?_
    refine am_callV (cvj := am_ci) (mtj := mX1_trait) (dj := 0) (nj := 1) (rcj := 0) (rsj := 0) (rc' := 0) (rs' := 0) (ci := 1) (st' := fun a9 => (am_I a9 :: [])) ⟨_, rfl, rfl⟩ [am_I l2] [] dX9_set_49 okX1_trait lk_RX9_105 (fun zA zH zE => txX1_trait q9 l2 h8 zA zH zE) rfl (fun _ => rfl) (by decide) rfl (Nat.le_of_ble_eq_true rfl) (by decide) (by decide) (fun r10 h11 => ?_)
    refine am_istore (LL := fun y9 => [some (am_R l0), some (am_I l1), some (am_I l2), some (am_I l3), some (am_R q9), some (am_I y9)]) dX9_set_52 (by decide) (fun _ => rfl) (fun x12 => ?_)
    refine am_aload dX9_set_54 rfl ?_
    refine am_iload_n dX9_set_56 rfl ?_
    refine am_iload_n dX9_set_57 rfl ?_
    refine am_callV (cvj := am_cu) (mtj := mX1_changeTrait) (dj := 0) (nj := 2) (rcj := 0) (rsj := 0) (rc' := 0) (rs' := 0) (ci := 1) (st' := fun _ => []) ⟨_, rfl, rfl⟩ [am_I l2, am_I l3] [] dX9_set_58 okX1_changeTrait lk_RX9_119 (fun zA zH zE => txX1_changeTrait q9 l2 l3 h11 zA zH zE) rfl (fun _ => rfl) (by decide) rfl (Nat.le_of_ble_eq_true rfl) (by decide) (by decide) (fun _ h13 => ?_)
    refine am_iload dX9_set_61 rfl ?_
    exact am_iret dX9_set_63 rfl rfl
  refine am_ldc (v := (-1000000001)) dX9_set_32 wd316 ?_
  exact am_iret dX9_set_34 rfl rfl
theorem txX9_set {xs : List Int32} (l0 : Option Nat) (l1 : Int32) (l2 : Int32) (l3 : Int32) (h : am_H) (a : Int32) (h2 : am_H) (e : fxX9_set l0 l1 l2 l3 h = some (a, h2)) : am_Ct xs mX9_set 2 0 0 [am_R l0, am_I l1, am_I l2, am_I l3] h (fun v h3 => v = am_ci a ∧ h3 = h2) := am_meth okX9_set (Nat.le_of_ble_eq_true rfl) rfl (sxX9_set l0 l1 l2 l3 h) e
theorem dX9_areTwoGloves_0 : am_at cX9_areTwoGloves 0 (.aload_n 0) 1 1 := by decide +kernel
theorem dX9_areTwoGloves_1 : am_at cX9_areTwoGloves 1 (.getfield 10) 3 4 := by decide +kernel
theorem dX9_areTwoGloves_4 : am_at cX9_areTwoGloves 4 (.iload_n 1) 1 5 := by decide +kernel
theorem dX9_areTwoGloves_5 : am_at cX9_areTwoGloves 5 (.invokevirtual 89) 3 8 := by decide +kernel
theorem dX9_areTwoGloves_8 : am_at cX9_areTwoGloves 8 (.ifCond .eq 23) 3 11 := by decide +kernel
theorem dX9_areTwoGloves_11 : am_at cX9_areTwoGloves 11 (.aload_n 0) 1 12 := by decide +kernel
theorem dX9_areTwoGloves_12 : am_at cX9_areTwoGloves 12 (.getfield 10) 3 15 := by decide +kernel
theorem dX9_areTwoGloves_15 : am_at cX9_areTwoGloves 15 (.iload_n 2) 1 16 := by decide +kernel
theorem dX9_areTwoGloves_16 : am_at cX9_areTwoGloves 16 (.invokevirtual 89) 3 19 := by decide +kernel
theorem dX9_areTwoGloves_19 : am_at cX9_areTwoGloves 19 (.ifCond .eq 12) 3 22 := by decide +kernel
theorem dX9_areTwoGloves_22 : am_at cX9_areTwoGloves 22 (.iload_n 1) 1 23 := by decide +kernel
theorem dX9_areTwoGloves_23 : am_at cX9_areTwoGloves 23 (.iload_n 2) 1 24 := by decide +kernel
theorem dX9_areTwoGloves_24 : am_at cX9_areTwoGloves 24 (.if_icmp .eq 7) 3 27 := by decide +kernel
theorem dX9_areTwoGloves_27 : am_at cX9_areTwoGloves 27 (.iconst 1) 1 28 := by decide +kernel
theorem dX9_areTwoGloves_28 : am_at cX9_areTwoGloves 28 (.goto 4) 3 31 := by decide +kernel
theorem dX9_areTwoGloves_31 : am_at cX9_areTwoGloves 31 (.iconst 0) 1 32 := by decide +kernel
theorem dX9_areTwoGloves_32 : am_at cX9_areTwoGloves 32 (.ireturn) 1 33 := by decide +kernel
def fxX9_areTwoGloves (l0 : Option Nat) (l1 : Int32) (l2 : Int32) (h : am_H) : Option (Int32 × am_H) := am_gd (am_ob h l0 9) (am_gd (am_ob h (am_gr h l0 0) 2) (am_bd (fxX2_hasGlove (am_gr h l0 0) l1 h) (fun r1 h2 => if r1 = 0 then (am_gd (am_bz (0 : Int32)) (some ((0 : Int32), h2))) else (am_gd (am_ob h2 l0 9) (am_gd (am_ob h2 (am_gr h2 l0 0) 2) (am_bd (fxX2_hasGlove (am_gr h2 l0 0) l2 h2) (fun r3 h4 => if r3 = 0 then (am_gd (am_bz (0 : Int32)) (some ((0 : Int32), h4))) else (if l1 = l2 then (am_gd (am_bz (0 : Int32)) (some ((0 : Int32), h4))) else (am_gd (am_bz (1 : Int32)) (some ((1 : Int32), h4)))))))))))
set_option maxRecDepth 100000 in
theorem sxX9_areTwoGloves {xs : List Int32} (l0 : Option Nat) (l1 : Int32) (l2 : Int32) (h : am_H) : am_Sm xs am_ci mX9_areTwoGloves 2 0 0 0 [some (am_R l0), some (am_I l1), some (am_I l2)] [] h (fxX9_areTwoGloves l0 l1 l2 h) := by
  unfold fxX9_areTwoGloves
  refine am_aload_n dX9_areTwoGloves_0 rfl ?_
  refine am_getR dX9_areTwoGloves_1 fk_RX9_10 rfl ?_
  refine am_iload_n dX9_areTwoGloves_4 rfl ?_
  refine am_callV (cvj := am_ci) (mtj := mX2_hasGlove) (dj := 1) (nj := 1) (rcj := 0) (rsj := 0) (rc' := 0) (rs' := 0) (ci := 2) (st' := fun a9 => (am_I a9 :: [])) ⟨_, rfl, rfl⟩ [am_I l1] [] dX9_areTwoGloves_5 okX2_hasGlove lk_RX9_89 (fun zA zH zE => txX2_hasGlove (am_gr h l0 0) l1 h zA zH zE) rfl (fun _ => rfl) (by decide) rfl (Nat.le_of_ble_eq_true rfl) (by decide) (by decide) (fun r1 h2 => ?_)
  refine am_if_eq (tgt := 31) dX9_areTwoGloves_8 (by decide) (fun c7 => ?_) (fun c7 => ?_)
  · refine am_iconst (v := 0) dX9_areTwoGloves_31 (by decide) ?_
    exact am_zret dX9_areTwoGloves_32 rfl rfl
  refine am_aload_n dX9_areTwoGloves_11 rfl ?_
  refine am_getR dX9_areTwoGloves_12 fk_RX9_10 rfl ?_
  refine am_iload_n dX9_areTwoGloves_15 rfl ?_
  refine am_callV (cvj := am_ci) (mtj := mX2_hasGlove) (dj := 1) (nj := 1) (rcj := 0) (rsj := 0) (rc' := 0) (rs' := 0) (ci := 2) (st' := fun a9 => (am_I a9 :: [])) ⟨_, rfl, rfl⟩ [am_I l2] [] dX9_areTwoGloves_16 okX2_hasGlove lk_RX9_89 (fun zA zH zE => txX2_hasGlove (am_gr h2 l0 0) l2 h2 zA zH zE) rfl (fun _ => rfl) (by decide) rfl (Nat.le_of_ble_eq_true rfl) (by decide) (by decide) (fun r3 h4 => ?_)
  refine am_if_eq (tgt := 31) dX9_areTwoGloves_19 (by decide) (fun c6 => ?_) (fun c6 => ?_)
  · refine am_iconst (v := 0) dX9_areTwoGloves_31 (by decide) ?_
    exact am_zret dX9_areTwoGloves_32 rfl rfl
  refine am_iload_n dX9_areTwoGloves_22 rfl ?_
  refine am_iload_n dX9_areTwoGloves_23 rfl ?_
  refine am_icmp_eq (tgt := 31) dX9_areTwoGloves_24 (by decide) (fun c5 => ?_) (fun c5 => ?_)
  · refine am_iconst (v := 0) dX9_areTwoGloves_31 (by decide) ?_
    exact am_zret dX9_areTwoGloves_32 rfl rfl
  refine am_iconst (v := 1) dX9_areTwoGloves_27 (by decide) ?_
  refine am_goto (tgt := 32) dX9_areTwoGloves_28 (by decide) ?_
  exact am_zret dX9_areTwoGloves_32 rfl rfl
theorem txX9_areTwoGloves {xs : List Int32} (l0 : Option Nat) (l1 : Int32) (l2 : Int32) (h : am_H) (a : Int32) (h2 : am_H) (e : fxX9_areTwoGloves l0 l1 l2 h = some (a, h2)) : am_Ct xs mX9_areTwoGloves 2 0 0 [am_R l0, am_I l1, am_I l2] h (fun v h3 => v = am_ci a ∧ h3 = h2) := am_meth okX9_areTwoGloves (Nat.le_of_ble_eq_true rfl) rfl (sxX9_areTwoGloves l0 l1 l2 h) e
theorem dX9_fits_0 : am_at cX9_fits 0 (.aload_n 0) 1 1 := by decide +kernel
theorem dX9_fits_1 : am_at cX9_fits 1 (.iload_n 1) 1 2 := by decide +kernel
theorem dX9_fits_2 : am_at cX9_fits 2 (.iload_n 2) 1 3 := by decide +kernel
theorem dX9_fits_3 : am_at cX9_fits 3 (.invokevirtual 123) 3 6 := by decide +kernel
theorem dX9_fits_6 : am_at cX9_fits 6 (.ifCond .ne 6) 3 9 := by decide +kernel
theorem dX9_fits_9 : am_at cX9_fits 9 (.ldc 84) 2 11 := by decide +kernel
theorem dX9_fits_11 : am_at cX9_fits 11 (.ireturn) 1 12 := by decide +kernel
theorem dX9_fits_12 : am_at cX9_fits 12 (.aload_n 0) 1 13 := by decide +kernel
theorem dX9_fits_13 : am_at cX9_fits 13 (.getfield 10) 3 16 := by decide +kernel
theorem dX9_fits_16 : am_at cX9_fits 16 (.getfield 92) 3 19 := by decide +kernel
theorem dX9_fits_19 : am_at cX9_fits 19 (.iload_n 1) 1 20 := by decide +kernel
theorem dX9_fits_20 : am_at cX9_fits 20 (.aaload) 1 21 := by decide +kernel
theorem dX9_fits_21 : am_at cX9_fits 21 (.aload_n 0) 1 22 := by decide +kernel
theorem dX9_fits_22 : am_at cX9_fits 22 (.getfield 10) 3 25 := by decide +kernel
theorem dX9_fits_25 : am_at cX9_fits 25 (.getfield 92) 3 28 := by decide +kernel
theorem dX9_fits_28 : am_at cX9_fits 28 (.iload_n 2) 1 29 := by decide +kernel
theorem dX9_fits_29 : am_at cX9_fits 29 (.aaload) 1 30 := by decide +kernel
theorem dX9_fits_30 : am_at cX9_fits 30 (.invokevirtual 127) 3 33 := by decide +kernel
theorem dX9_fits_33 : am_at cX9_fits 33 (.ifCond .eq 7) 3 36 := by decide +kernel
theorem dX9_fits_36 : am_at cX9_fits 36 (.iconst 1) 1 37 := by decide +kernel
theorem dX9_fits_37 : am_at cX9_fits 37 (.goto 4) 3 40 := by decide +kernel
theorem dX9_fits_40 : am_at cX9_fits 40 (.iconst 0) 1 41 := by decide +kernel
theorem dX9_fits_41 : am_at cX9_fits 41 (.ireturn) 1 42 := by decide +kernel
def fxX9_fits (l0 : Option Nat) (l1 : Int32) (l2 : Int32) (h : am_H) : Option (Int32 × am_H) := am_gd (am_ob h l0 9) (am_bd (fxX9_areTwoGloves l0 l1 l2 h) (fun r1 h2 => if r1 = 0 then (some ((-1000000001 : Int32), h2)) else (am_gd (am_ob h2 l0 9) (am_gd (am_ob h2 (am_gr h2 l0 0) 2) (am_gd (am_ix h2 (am_gr h2 (am_gr h2 l0 0) 0) 3 l1) (am_gd (am_ob h2 l0 9) (am_gd (am_ob h2 (am_gr h2 l0 0) 2) (am_gd (am_ix h2 (am_gr h2 (am_gr h2 l0 0) 0) 3 l2) (am_gd (am_ob h2 (am_gr h2 (am_gr h2 (am_gr h2 l0 0) 0) l1.toNatClampNeg) 1) (am_bd (fxX1_suits (am_gr h2 (am_gr h2 (am_gr h2 l0 0) 0) l1.toNatClampNeg) (am_gr h2 (am_gr h2 (am_gr h2 l0 0) 0) l2.toNatClampNeg) h2) (fun r3 h4 => if r3 = 0 then (some ((0 : Int32), h4)) else (some ((1 : Int32), h4)))))))))))))
set_option maxRecDepth 100000 in
theorem sxX9_fits {xs : List Int32} (l0 : Option Nat) (l1 : Int32) (l2 : Int32) (h : am_H) : am_Sm xs am_ci mX9_fits 3 0 0 0 [some (am_R l0), some (am_I l1), some (am_I l2)] [] h (fxX9_fits l0 l1 l2 h) := by
  unfold fxX9_fits
  refine am_aload_n dX9_fits_0 rfl ?_
  refine am_iload_n dX9_fits_1 rfl ?_
  refine am_iload_n dX9_fits_2 rfl ?_
  refine am_callV (cvj := am_ci) (mtj := mX9_areTwoGloves) (dj := 2) (nj := 2) (rcj := 0) (rsj := 0) (rc' := 0) (rs' := 0) (ci := 9) (st' := fun a9 => (am_I a9 :: [])) ⟨_, rfl, rfl⟩ [am_I l1, am_I l2] [] dX9_fits_3 okX9_areTwoGloves lk_RX9_123 (fun zA zH zE => txX9_areTwoGloves l0 l1 l2 h zA zH zE) rfl (fun _ => rfl) (by decide) rfl (Nat.le_of_ble_eq_true rfl) (by decide) (by decide) (fun r1 h2 => ?_)
  refine am_if_ne (tgt := 12) dX9_fits_6 (by decide) (fun c6 => ?_) (fun c6 => ?_)
  · refine am_aload_n dX9_fits_12 rfl ?_
    refine am_getR dX9_fits_13 fk_RX9_10 rfl ?_
    refine am_getR dX9_fits_16 fk_RX9_92 rfl ?_
    refine am_iload_n dX9_fits_19 rfl ?_
    refine am_aald (t := 3) dX9_fits_20 (by decide) (by decide) ?_
    refine am_aload_n dX9_fits_21 rfl ?_
    refine am_getR dX9_fits_22 fk_RX9_10 rfl ?_
    refine am_getR dX9_fits_25 fk_RX9_92 rfl ?_
    refine am_iload_n dX9_fits_28 rfl ?_
    refine am_aald (t := 3) dX9_fits_29 (by decide) (by decide) ?_
    refine am_callV (cvj := am_ci) (mtj := mX1_suits) (dj := 1) (nj := 1) (rcj := 0) (rsj := 0) (rc' := 0) (rs' := 0) (ci := 1) (st' := fun a9 => (am_I a9 :: [])) ⟨_, rfl, rfl⟩ [am_R (am_gr h2 (am_gr h2 (am_gr h2 l0 0) 0) l2.toNatClampNeg)] [] dX9_fits_30 okX1_suits lk_RX9_127 (fun zA zH zE => txX1_suits (am_gr h2 (am_gr h2 (am_gr h2 l0 0) 0) l1.toNatClampNeg) (am_gr h2 (am_gr h2 (am_gr h2 l0 0) 0) l2.toNatClampNeg) h2 zA zH zE) rfl (fun _ => rfl) (by decide) rfl (Nat.le_of_ble_eq_true rfl) (by decide) (by decide) (fun r3 h4 => ?_)
    refine am_if_eq (tgt := 40) dX9_fits_33 (by decide) (fun c5 => ?_) (fun c5 => ?_)
    · refine am_iconst (v := 0) dX9_fits_40 (by decide) ?_
      exact am_iret dX9_fits_41 rfl rfl
    refine am_iconst (v := 1) dX9_fits_36 (by decide) ?_
    refine am_goto (tgt := 41) dX9_fits_37 (by decide) ?_
    exact am_iret dX9_fits_41 rfl rfl
  refine am_ldc (v := (-1000000001)) dX9_fits_9 wd316 ?_
  exact am_iret dX9_fits_11 rfl rfl
theorem txX9_fits {xs : List Int32} (l0 : Option Nat) (l1 : Int32) (l2 : Int32) (h : am_H) (a : Int32) (h2 : am_H) (e : fxX9_fits l0 l1 l2 h = some (a, h2)) : am_Ct xs mX9_fits 3 0 0 [am_R l0, am_I l1, am_I l2] h (fun v h3 => v = am_ci a ∧ h3 = h2) := am_meth okX9_fits (Nat.le_of_ble_eq_true rfl) rfl (sxX9_fits l0 l1 l2 h) e
theorem dX9_value_0 : am_at cX9_value 0 (.aload_n 0) 1 1 := by decide +kernel
theorem dX9_value_1 : am_at cX9_value 1 (.iload_n 1) 1 2 := by decide +kernel
theorem dX9_value_2 : am_at cX9_value 2 (.iload_n 2) 1 3 := by decide +kernel
theorem dX9_value_3 : am_at cX9_value 3 (.invokevirtual 123) 3 6 := by decide +kernel
theorem dX9_value_6 : am_at cX9_value 6 (.ifCond .ne 6) 3 9 := by decide +kernel
theorem dX9_value_9 : am_at cX9_value 9 (.ldc 84) 2 11 := by decide +kernel
theorem dX9_value_11 : am_at cX9_value 11 (.ireturn) 1 12 := by decide +kernel
theorem dX9_value_12 : am_at cX9_value 12 (.aload_n 0) 1 13 := by decide +kernel
theorem dX9_value_13 : am_at cX9_value 13 (.getfield 10) 3 16 := by decide +kernel
theorem dX9_value_16 : am_at cX9_value 16 (.iload_n 1) 1 17 := by decide +kernel
theorem dX9_value_17 : am_at cX9_value 17 (.iload_n 2) 1 18 := by decide +kernel
theorem dX9_value_18 : am_at cX9_value 18 (.aload_n 0) 1 19 := by decide +kernel
theorem dX9_value_19 : am_at cX9_value 19 (.getfield 29) 3 22 := by decide +kernel
theorem dX9_value_22 : am_at cX9_value 22 (.invokevirtual 131) 3 25 := by decide +kernel
theorem dX9_value_25 : am_at cX9_value 25 (.istore_n 3) 1 26 := by decide +kernel
theorem dX9_value_26 : am_at cX9_value 26 (.iload_n 3) 1 27 := by decide +kernel
theorem dX9_value_27 : am_at cX9_value 27 (.ifCond .ge 8) 3 30 := by decide +kernel
theorem dX9_value_30 : am_at cX9_value 30 (.ldc 135) 2 32 := by decide +kernel
theorem dX9_value_32 : am_at cX9_value 32 (.goto 4) 3 35 := by decide +kernel
theorem dX9_value_35 : am_at cX9_value 35 (.iload_n 3) 1 36 := by decide +kernel
theorem dX9_value_36 : am_at cX9_value 36 (.ireturn) 1 37 := by decide +kernel
def fxX9_value (l0 : Option Nat) (l1 : Int32) (l2 : Int32) (h : am_H) : Option (Int32 × am_H) := am_gd (am_ob h l0 9) (am_bd (fxX9_areTwoGloves l0 l1 l2 h) (fun r1 h2 => if r1 = 0 then (some ((-1000000001 : Int32), h2)) else (am_gd (am_ob h2 l0 9) (am_gd (am_ob h2 l0 9) (am_gd (am_ob h2 (am_gr h2 l0 0) 2) (am_bd (fxX2_pairValue (am_gr h2 l0 0) l1 l2 (am_gr h2 l0 4) h2) (fun r3 h4 => am_lt r3 (fun x5 => if 0 ≤ x5 then (some (x5, h4)) else (some ((-1000000005 : Int32), h4))))))))))
set_option maxRecDepth 100000 in
theorem sxX9_value {xs : List Int32} (l0 : Option Nat) (l1 : Int32) (l2 : Int32) (h : am_H) : am_Sm xs am_ci mX9_value 4 0 0 0 [some (am_R l0), some (am_I l1), some (am_I l2), none] [] h (fxX9_value l0 l1 l2 h) := by
  unfold fxX9_value
  refine am_aload_n dX9_value_0 rfl ?_
  refine am_iload_n dX9_value_1 rfl ?_
  refine am_iload_n dX9_value_2 rfl ?_
  refine am_callV (cvj := am_ci) (mtj := mX9_areTwoGloves) (dj := 2) (nj := 2) (rcj := 0) (rsj := 0) (rc' := 0) (rs' := 0) (ci := 9) (st' := fun a9 => (am_I a9 :: [])) ⟨_, rfl, rfl⟩ [am_I l1, am_I l2] [] dX9_value_3 okX9_areTwoGloves lk_RX9_123 (fun zA zH zE => txX9_areTwoGloves l0 l1 l2 h zA zH zE) rfl (fun _ => rfl) (by decide) rfl (Nat.le_of_ble_eq_true rfl) (by decide) (by decide) (fun r1 h2 => ?_)
  refine am_if_ne (tgt := 12) dX9_value_6 (by decide) (fun c7 => ?_) (fun c7 => ?_)
  · refine am_aload_n dX9_value_12 rfl ?_
    refine am_getR dX9_value_13 fk_RX9_10 rfl ?_
    refine am_iload_n dX9_value_16 rfl ?_
    refine am_iload_n dX9_value_17 rfl ?_
    refine am_aload_n dX9_value_18 rfl ?_
    refine am_getR dX9_value_19 fk_RX9_29 rfl ?_
    refine am_callV (cvj := am_ci) (mtj := mX2_pairValue) (dj := 3) (nj := 3) (rcj := 0) (rsj := 0) (rc' := 0) (rs' := 0) (ci := 2) (st' := fun a9 => (am_I a9 :: [])) ⟨_, rfl, rfl⟩ [am_I l1, am_I l2, am_R (am_gr h2 l0 4)] [] dX9_value_22 okX2_pairValue lk_RX9_131 (fun zA zH zE => txX2_pairValue (am_gr h2 l0 0) l1 l2 (am_gr h2 l0 4) h2 zA zH zE) rfl (fun _ => rfl) (by decide) rfl (Nat.le_of_ble_eq_true rfl) (by decide) (by decide) (fun r3 h4 => ?_)
    refine am_istore_n (LL := fun y9 => [some (am_R l0), some (am_I l1), some (am_I l2), some (am_I y9)]) dX9_value_25 (by decide) (fun _ => rfl) (fun x5 => ?_)
    refine am_iload_n dX9_value_26 rfl ?_
    refine am_if_ge (tgt := 35) dX9_value_27 (by decide) (fun c6 => ?_) (fun c6 => ?_)
    · refine am_iload_n dX9_value_35 rfl ?_
      exact am_iret dX9_value_36 rfl rfl
    refine am_ldc (v := (-1000000005)) dX9_value_30 wd429 ?_
    refine am_goto (tgt := 36) dX9_value_32 (by decide) ?_
    exact am_iret dX9_value_36 rfl rfl
  refine am_ldc (v := (-1000000001)) dX9_value_9 wd316 ?_
  exact am_iret dX9_value_11 rfl rfl
theorem txX9_value {xs : List Int32} (l0 : Option Nat) (l1 : Int32) (l2 : Int32) (h : am_H) (a : Int32) (h2 : am_H) (e : fxX9_value l0 l1 l2 h = some (a, h2)) : am_Ct xs mX9_value 4 0 0 [am_R l0, am_I l1, am_I l2] h (fun v h3 => v = am_ci a ∧ h3 = h2) := am_meth okX9_value (Nat.le_of_ble_eq_true rfl) rfl (sxX9_value l0 l1 l2 h) e
theorem dX9_deal_0 : am_at cX9_deal 0 (.iload_n 1) 1 1 := by decide +kernel
theorem dX9_deal_1 : am_at cX9_deal 1 (.iconst 1) 1 2 := by decide +kernel
theorem dX9_deal_2 : am_at cX9_deal 2 (.bipush 10) 2 4 := by decide +kernel
theorem dX9_deal_4 : am_at cX9_deal 4 (.invokestatic 80) 3 7 := by decide +kernel
theorem dX9_deal_7 : am_at cX9_deal 7 (.ifCond .ne 6) 3 10 := by decide +kernel
theorem dX9_deal_10 : am_at cX9_deal 10 (.ldc 84) 2 12 := by decide +kernel
theorem dX9_deal_12 : am_at cX9_deal 12 (.ireturn) 1 13 := by decide +kernel
theorem dX9_deal_13 : am_at cX9_deal 13 (.iload_n 1) 1 14 := by decide +kernel
theorem dX9_deal_14 : am_at cX9_deal 14 (.bipush 10) 2 16 := by decide +kernel
theorem dX9_deal_16 : am_at cX9_deal 16 (.aload_n 0) 1 17 := by decide +kernel
theorem dX9_deal_17 : am_at cX9_deal 17 (.getfield 10) 3 20 := by decide +kernel
theorem dX9_deal_20 : am_at cX9_deal 20 (.getfield 136) 3 23 := by decide +kernel
theorem dX9_deal_23 : am_at cX9_deal 23 (.isub) 1 24 := by decide +kernel
theorem dX9_deal_24 : am_at cX9_deal 24 (.invokestatic 139) 3 27 := by decide +kernel
theorem dX9_deal_27 : am_at cX9_deal 27 (.istore_n 2) 1 28 := by decide +kernel
theorem dX9_deal_28 : am_at cX9_deal 28 (.iconst 0) 1 29 := by decide +kernel
theorem dX9_deal_29 : am_at cX9_deal 29 (.istore_n 3) 1 30 := by decide +kernel
theorem dX9_deal_30 : am_at cX9_deal 30 (.iload_n 3) 1 31 := by decide +kernel
theorem dX9_deal_31 : am_at cX9_deal 31 (.iload_n 2) 1 32 := by decide +kernel
theorem dX9_deal_32 : am_at cX9_deal 32 (.if_icmp .ge 16) 3 35 := by decide +kernel
theorem dX9_deal_35 : am_at cX9_deal 35 (.aload_n 0) 1 36 := by decide +kernel
theorem dX9_deal_36 : am_at cX9_deal 36 (.getfield 10) 3 39 := by decide +kernel
theorem dX9_deal_39 : am_at cX9_deal 39 (.invokevirtual 145) 3 42 := by decide +kernel
theorem dX9_deal_42 : am_at cX9_deal 42 (.iinc 3 1) 3 45 := by decide +kernel
theorem dX9_deal_45 : am_at cX9_deal 45 (.goto (-15)) 3 48 := by decide +kernel
theorem dX9_deal_48 : am_at cX9_deal 48 (.iload_n 2) 1 49 := by decide +kernel
theorem dX9_deal_49 : am_at cX9_deal 49 (.ireturn) 1 50 := by decide +kernel
def fxX9_deal_b30 : Nat → Option Nat → Int32 → Int32 → am_H → Option (Int32 × am_H)
  | 0, _, _, _, _ => none
  | n + 1, l0, l2, l3, h => if l2 ≤ l3 then (some (l2, h)) else (am_gd (am_ob h l0 9) (am_gd (am_ob h (am_gr h l0 0) 2) (am_bd (fxX2_drawGlove (am_gr h l0 0) h) (fun _ h6 => am_lt (l3 + 1) (fun x7 => fxX9_deal_b30 n l0 l2 x7 h6)))))
set_option maxRecDepth 100000 in
theorem sxX9_deal_b30 {xs : List Int32} : ∀ (n : Nat) (l0 : Option Nat) (l2 : Int32) (l3 : Int32) (h : am_H), am_Sm xs am_ci mX9_deal 3 0 0 30 [some (am_R l0), none, some (am_I l2), some (am_I l3)] [] h (fxX9_deal_b30 n l0 l2 l3 h) := by
  intro n
  induction n with
  | zero => intros; exact am_none
  | succ n ih =>
    intro l0 l2 l3 h
    rw [fxX9_deal_b30]
    refine am_iload_n dX9_deal_30 rfl ?_
    refine am_iload_n dX9_deal_31 rfl ?_
    refine am_icmp_ge (tgt := 48) dX9_deal_32 (by decide) (fun c8 => ?_) (fun c8 => ?_)
    · refine am_iload_n dX9_deal_48 rfl ?_
      exact am_iret dX9_deal_49 rfl rfl
    refine am_aload_n dX9_deal_35 rfl ?_
    refine am_getR dX9_deal_36 fk_RX9_10 rfl ?_
    refine am_callV (cvj := am_cu) (mtj := mX2_drawGlove) (dj := 2) (nj := 0) (rcj := 0) (rsj := 0) (rc' := 0) (rs' := 0) (ci := 2) (st' := fun _ => []) ⟨_, rfl, rfl⟩ [] [] dX9_deal_39 okX2_drawGlove lk_RX9_145 (fun zA zH zE => txX2_drawGlove (am_gr h l0 0) h zA zH zE) rfl (fun _ => rfl) (by decide) rfl (Nat.le_of_ble_eq_true rfl) (by decide) (by decide) (fun _ h6 => ?_)
    refine am_iinc (v := 1) (LL := fun y9 => [some (am_R l0), none, some (am_I l2), some (am_I y9)]) dX9_deal_42 (by decide) rfl (by decide) (fun _ => rfl) (fun x7 => ?_)
    refine am_goto (tgt := 30) dX9_deal_45 (by decide) ?_
    exact am_weak (ih l0 l2 x7 h6) ⟨rfl, ⟨rfl, ⟨rfl, trivial⟩⟩⟩ (Nat.le_refl _) (Nat.le_refl _)
def fxX9_deal (l0 : Option Nat) (l1 : Int32) (h : am_H) : Option (Int32 × am_H) := am_bd (fxX9_within l1 (1 : Int32) (10 : Int32) h) (fun r1 h2 => if r1 = 0 then (some ((-1000000001 : Int32), h2)) else (am_gd (am_ob h2 l0 9) (am_gd (am_ob h2 (am_gr h2 l0 0) 2) (am_lt (am_mmin l1 ((10 : Int32) - (am_gi h2 (am_gr h2 l0 0) 1))) (fun x3 => am_lt (0 : Int32) (fun x4 => fxX9_deal_b30 am_F l0 x3 x4 h2))))))
set_option maxRecDepth 100000 in
theorem sxX9_deal {xs : List Int32} (l0 : Option Nat) (l1 : Int32) (h : am_H) : am_Sm xs am_ci mX9_deal 3 0 0 0 [some (am_R l0), some (am_I l1), none, none] [] h (fxX9_deal l0 l1 h) := by
  unfold fxX9_deal
  refine am_iload_n dX9_deal_0 rfl ?_
  refine am_iconst (v := 1) dX9_deal_1 (by decide) ?_
  refine am_bipush (v := 10) dX9_deal_2 (by decide) ?_
  refine am_callS (cvj := am_ci) (mtj := mX9_within) (dj := 0) (nj := 3) (rcj := 0) (rsj := 0) (rc' := 0) (rs' := 0) (st' := fun a9 => (am_I a9 :: [])) [am_I l1, am_I (1 : Int32), am_I (10 : Int32)] [] dX9_deal_4 okX9_within lk_RX9_80 (fun zA zH zE => txX9_within l1 (1 : Int32) (10 : Int32) h zA zH zE) rfl (fun _ => rfl) (by decide) rfl (Nat.le_of_ble_eq_true rfl) (by decide) (by decide) (fun r1 h2 => ?_)
  refine am_if_ne (tgt := 13) dX9_deal_7 (by decide) (fun c5 => ?_) (fun c5 => ?_)
  · refine am_iload_n dX9_deal_13 rfl ?_
    refine am_bipush (v := 10) dX9_deal_14 (by decide) ?_
    refine am_aload_n dX9_deal_16 rfl ?_
    refine am_getR dX9_deal_17 fk_RX9_10 rfl ?_
    refine am_getI dX9_deal_20 fk_RX9_136 rfl ?_
    refine am_isub dX9_deal_23 ?_
    refine am_mmin9 dX9_deal_24 wd427 wd407 wd12 wd408 (by decide) (Nat.le_of_ble_eq_true rfl) ?_
    refine am_istore_n (LL := fun y9 => [some (am_R l0), some (am_I l1), some (am_I y9), none]) dX9_deal_27 (by decide) (fun _ => rfl) (fun x3 => ?_)
    refine am_iconst (v := 0) dX9_deal_28 (by decide) ?_
    refine am_istore_n (LL := fun y9 => [some (am_R l0), some (am_I l1), some (am_I x3), some (am_I y9)]) dX9_deal_29 (by decide) (fun _ => rfl) (fun x4 => ?_)
    exact am_weak (sxX9_deal_b30 am_F l0 x3 x4 h2) ⟨rfl, ⟨rfl, ⟨rfl, trivial⟩⟩⟩ (Nat.le_refl _) (Nat.le_refl _)
  refine am_ldc (v := (-1000000001)) dX9_deal_10 wd316 ?_
  exact am_iret dX9_deal_12 rfl rfl
theorem txX9_deal {xs : List Int32} (l0 : Option Nat) (l1 : Int32) (h : am_H) (a : Int32) (h2 : am_H) (e : fxX9_deal l0 l1 h = some (a, h2)) : am_Ct xs mX9_deal 3 0 0 [am_R l0, am_I l1] h (fun v h3 => v = am_ci a ∧ h3 = h2) := am_meth okX9_deal (Nat.le_of_ble_eq_true rfl) rfl (sxX9_deal l0 l1 h) e
theorem dX9_seed_0 : am_at cX9_seed 0 (.aload_n 0) 1 1 := by decide +kernel
theorem dX9_seed_1 : am_at cX9_seed 1 (.getfield 10) 3 4 := by decide +kernel
theorem dX9_seed_4 : am_at cX9_seed 4 (.getfield 148) 3 7 := by decide +kernel
theorem dX9_seed_7 : am_at cX9_seed 7 (.istore_n 2) 1 8 := by decide +kernel
theorem dX9_seed_8 : am_at cX9_seed 8 (.aload_n 0) 1 9 := by decide +kernel
theorem dX9_seed_9 : am_at cX9_seed 9 (.getfield 10) 3 12 := by decide +kernel
theorem dX9_seed_12 : am_at cX9_seed 12 (.iload_n 1) 1 13 := by decide +kernel
theorem dX9_seed_13 : am_at cX9_seed 13 (.putfield 148) 3 16 := by decide +kernel
theorem dX9_seed_16 : am_at cX9_seed 16 (.iload_n 2) 1 17 := by decide +kernel
theorem dX9_seed_17 : am_at cX9_seed 17 (.ireturn) 1 18 := by decide +kernel
def fxX9_seed (l0 : Option Nat) (l1 : Int32) (h : am_H) : Option (Int32 × am_H) := am_gd (am_ob h l0 9) (am_gd (am_ob h (am_gr h l0 0) 2) (am_lt (am_gi h (am_gr h l0 0) 4) (fun x1 => am_gd (am_ob h l0 9) (am_gd (am_ob h (am_gr h l0 0) 2) (am_lt (am_si h (am_gr h l0 0) 4 l1) (fun h2 => some (x1, h2)))))))
set_option maxRecDepth 100000 in
theorem sxX9_seed {xs : List Int32} (l0 : Option Nat) (l1 : Int32) (h : am_H) : am_Sm xs am_ci mX9_seed 0 0 0 0 [some (am_R l0), some (am_I l1), none] [] h (fxX9_seed l0 l1 h) := by
  unfold fxX9_seed
  refine am_aload_n dX9_seed_0 rfl ?_
  refine am_getR dX9_seed_1 fk_RX9_10 rfl ?_
  refine am_getI dX9_seed_4 fk_RX9_148 rfl ?_
  refine am_istore_n (LL := fun y9 => [some (am_R l0), some (am_I l1), some (am_I y9)]) dX9_seed_7 (by decide) (fun _ => rfl) (fun x1 => ?_)
  refine am_aload_n dX9_seed_8 rfl ?_
  refine am_getR dX9_seed_9 fk_RX9_10 rfl ?_
  refine am_iload_n dX9_seed_12 rfl ?_
  refine am_putI dX9_seed_13 fk_RX9_148 ⟨_, rfl, Or.inl rfl⟩ rfl (fun h2 => ?_)
  refine am_iload_n dX9_seed_16 rfl ?_
  exact am_iret dX9_seed_17 rfl rfl
theorem txX9_seed {xs : List Int32} (l0 : Option Nat) (l1 : Int32) (h : am_H) (a : Int32) (h2 : am_H) (e : fxX9_seed l0 l1 h = some (a, h2)) : am_Ct xs mX9_seed 0 0 0 [am_R l0, am_I l1] h (fun v h3 => v = am_ci a ∧ h3 = h2) := am_meth okX9_seed (Nat.le_of_ble_eq_true rfl) rfl (sxX9_seed l0 l1 h) e
theorem dX9_best_0 : am_at cX9_best 0 (.iload_n 1) 1 1 := by decide +kernel
theorem dX9_best_1 : am_at cX9_best 1 (.iconst 0) 1 2 := by decide +kernel
theorem dX9_best_2 : am_at cX9_best 2 (.aload_n 0) 1 3 := by decide +kernel
theorem dX9_best_3 : am_at cX9_best 3 (.getfield 10) 3 6 := by decide +kernel
theorem dX9_best_6 : am_at cX9_best 6 (.invokevirtual 151) 3 9 := by decide +kernel
theorem dX9_best_9 : am_at cX9_best 9 (.invokestatic 80) 3 12 := by decide +kernel
theorem dX9_best_12 : am_at cX9_best 12 (.ifCond .ne 6) 3 15 := by decide +kernel
theorem dX9_best_15 : am_at cX9_best 15 (.ldc 84) 2 17 := by decide +kernel
theorem dX9_best_17 : am_at cX9_best 17 (.ireturn) 1 18 := by decide +kernel
theorem dX9_best_18 : am_at cX9_best 18 (.aload_n 0) 1 19 := by decide +kernel
theorem dX9_best_19 : am_at cX9_best 19 (.getfield 43) 3 22 := by decide +kernel
theorem dX9_best_22 : am_at cX9_best 22 (.aload_n 0) 1 23 := by decide +kernel
theorem dX9_best_23 : am_at cX9_best 23 (.getfield 10) 3 26 := by decide +kernel
theorem dX9_best_26 : am_at cX9_best 26 (.aload_n 0) 1 27 := by decide +kernel
theorem dX9_best_27 : am_at cX9_best 27 (.getfield 29) 3 30 := by decide +kernel
theorem dX9_best_30 : am_at cX9_best 30 (.invokevirtual 154) 3 33 := by decide +kernel
theorem dX9_best_33 : am_at cX9_best 33 (.aload_n 0) 1 34 := by decide +kernel
theorem dX9_best_34 : am_at cX9_best 34 (.getfield 43) 3 37 := by decide +kernel
theorem dX9_best_37 : am_at cX9_best 37 (.invokevirtual 158) 3 40 := by decide +kernel
theorem dX9_best_40 : am_at cX9_best 40 (.aload_n 0) 1 41 := by decide +kernel
theorem dX9_best_41 : am_at cX9_best 41 (.getfield 43) 3 44 := by decide +kernel
theorem dX9_best_44 : am_at cX9_best 44 (.iload_n 1) 1 45 := by decide +kernel
theorem dX9_best_45 : am_at cX9_best 45 (.invokevirtual 161) 3 48 := by decide +kernel
theorem dX9_best_48 : am_at cX9_best 48 (.ireturn) 1 49 := by decide +kernel
def fxX9_best (l0 : Option Nat) (l1 : Int32) (h : am_H) : Option (Int32 × am_H) := am_gd (am_ob h l0 9) (am_gd (am_ob h (am_gr h l0 0) 2) (am_bd (fxX2_allGloves (am_gr h l0 0) h) (fun r1 h2 => am_bd (fxX9_within l1 (0 : Int32) r1 h2) (fun r3 h4 => if r3 = 0 then (some ((-1000000001 : Int32), h4)) else (am_gd (am_ob h4 l0 9) (am_gd (am_ob h4 l0 9) (am_gd (am_ob h4 l0 9) (am_gd (am_ob h4 (am_gr h4 l0 6) 7) (am_bd (fxX7_weigh (am_gr h4 l0 6) (am_gr h4 l0 0) (am_gr h4 l0 4) h4) (fun _ h5 => am_gd (am_ob h5 l0 9) (am_gd (am_ob h5 (am_gr h5 l0 6) 7) (am_bd (fxX7_pairUp (am_gr h5 l0 6) h5) (fun _ h6 => am_gd (am_ob h6 l0 9) (am_gd (am_ob h6 (am_gr h6 l0 6) 7) (am_bd (fxX7_valueOfSet (am_gr h6 l0 6) l1 h6) (fun r7 h8 => some (r7, h8)))))))))))))))))
set_option maxRecDepth 100000 in
theorem sxX9_best {xs : List Int32} (l0 : Option Nat) (l1 : Int32) (h : am_H) : am_Sm xs am_ci mX9_best 5 0 0 0 [some (am_R l0), some (am_I l1)] [] h (fxX9_best l0 l1 h) := by
  unfold fxX9_best
  refine am_iload_n dX9_best_0 rfl ?_
  refine am_iconst (v := 0) dX9_best_1 (by decide) ?_
  refine am_aload_n dX9_best_2 rfl ?_
  refine am_getR dX9_best_3 fk_RX9_10 rfl ?_
  refine am_callV (cvj := am_ci) (mtj := mX2_allGloves) (dj := 0) (nj := 0) (rcj := 0) (rsj := 0) (rc' := 0) (rs' := 0) (ci := 2) (st' := fun a9 => (am_I a9 :: [am_I (0 : Int32), am_I l1])) ⟨_, rfl, rfl⟩ [] [am_I (0 : Int32), am_I l1] dX9_best_6 okX2_allGloves lk_RX9_151 (fun zA zH zE => txX2_allGloves (am_gr h l0 0) h zA zH zE) rfl (fun _ => rfl) (by decide) rfl (Nat.le_of_ble_eq_true rfl) (by decide) (by decide) (fun r1 h2 => ?_)
  refine am_callS (cvj := am_ci) (mtj := mX9_within) (dj := 0) (nj := 3) (rcj := 0) (rsj := 0) (rc' := 0) (rs' := 0) (st' := fun a9 => (am_I a9 :: [])) [am_I l1, am_I (0 : Int32), am_I r1] [] dX9_best_9 okX9_within lk_RX9_80 (fun zA zH zE => txX9_within l1 (0 : Int32) r1 h2 zA zH zE) rfl (fun _ => rfl) (by decide) rfl (Nat.le_of_ble_eq_true rfl) (by decide) (by decide) (fun r3 h4 => ?_)
  refine am_if_ne (tgt := 18) dX9_best_12 (by decide) (fun c9 => ?_) (fun c9 => ?_)
  · refine am_aload_n dX9_best_18 rfl ?_
    refine am_getR dX9_best_19 fk_RX9_43 rfl ?_
    refine am_aload_n dX9_best_22 rfl ?_
    refine am_getR dX9_best_23 fk_RX9_10 rfl ?_
    refine am_aload_n dX9_best_26 rfl ?_
    refine am_getR dX9_best_27 fk_RX9_29 rfl ?_
    refine am_callV (cvj := am_cu) (mtj := mX7_weigh) (dj := 4) (nj := 2) (rcj := 0) (rsj := 0) (rc' := 0) (rs' := 0) (ci := 7) (st' := fun _ => []) ⟨_, rfl, rfl⟩ [am_R (am_gr h4 l0 0), am_R (am_gr h4 l0 4)] [] dX9_best_30 okX7_weigh lk_RX9_154 (fun zA zH zE => txX7_weigh (am_gr h4 l0 6) (am_gr h4 l0 0) (am_gr h4 l0 4) h4 zA zH zE) rfl (fun _ => rfl) (by decide) rfl (Nat.le_of_ble_eq_true rfl) (by decide) (by decide) (fun _ h5 => ?_)
    refine am_aload_n dX9_best_33 rfl ?_
    refine am_getR dX9_best_34 fk_RX9_43 rfl ?_
    refine am_callV (cvj := am_cu) (mtj := mX7_pairUp) (dj := 2) (nj := 0) (rcj := 0) (rsj := 0) (rc' := 0) (rs' := 0) (ci := 7) (st' := fun _ => []) ⟨_, rfl, rfl⟩ [] [] dX9_best_37 okX7_pairUp lk_RX9_158 (fun zA zH zE => txX7_pairUp (am_gr h5 l0 6) h5 zA zH zE) rfl (fun _ => rfl) (by decide) rfl (Nat.le_of_ble_eq_true rfl) (by decide) (by decide) (fun _ h6 => ?_)
    refine am_aload_n dX9_best_40 rfl ?_
    refine am_getR dX9_best_41 fk_RX9_43 rfl ?_
    refine am_iload_n dX9_best_44 rfl ?_
    refine am_callV (cvj := am_ci) (mtj := mX7_valueOfSet) (dj := 1) (nj := 1) (rcj := 0) (rsj := 0) (rc' := 0) (rs' := 0) (ci := 7) (st' := fun a9 => (am_I a9 :: [])) ⟨_, rfl, rfl⟩ [am_I l1] [] dX9_best_45 okX7_valueOfSet lk_RX9_161 (fun zA zH zE => txX7_valueOfSet (am_gr h6 l0 6) l1 h6 zA zH zE) rfl (fun _ => rfl) (by decide) rfl (Nat.le_of_ble_eq_true rfl) (by decide) (by decide) (fun r7 h8 => ?_)
    exact am_iret dX9_best_48 rfl rfl
  refine am_ldc (v := (-1000000001)) dX9_best_15 wd316 ?_
  exact am_iret dX9_best_17 rfl rfl
theorem txX9_best {xs : List Int32} (l0 : Option Nat) (l1 : Int32) (h : am_H) (a : Int32) (h2 : am_H) (e : fxX9_best l0 l1 h = some (a, h2)) : am_Ct xs mX9_best 5 0 0 [am_R l0, am_I l1] h (fun v h3 => v = am_ci a ∧ h3 = h2) := am_meth okX9_best (Nat.le_of_ble_eq_true rfl) rfl (sxX9_best l0 l1 h) e
theorem dX9_partner_0 : am_at cX9_partner 0 (.aload_n 0) 1 1 := by decide +kernel
theorem dX9_partner_1 : am_at cX9_partner 1 (.getfield 10) 3 4 := by decide +kernel
theorem dX9_partner_4 : am_at cX9_partner 4 (.iload_n 1) 1 5 := by decide +kernel
theorem dX9_partner_5 : am_at cX9_partner 5 (.invokevirtual 89) 3 8 := by decide +kernel
theorem dX9_partner_8 : am_at cX9_partner 8 (.ifCond .ne 6) 3 11 := by decide +kernel
theorem dX9_partner_11 : am_at cX9_partner 11 (.ldc 84) 2 13 := by decide +kernel
theorem dX9_partner_13 : am_at cX9_partner 13 (.ireturn) 1 14 := by decide +kernel
theorem dX9_partner_14 : am_at cX9_partner 14 (.aload_n 0) 1 15 := by decide +kernel
theorem dX9_partner_15 : am_at cX9_partner 15 (.getfield 43) 3 18 := by decide +kernel
theorem dX9_partner_18 : am_at cX9_partner 18 (.aload_n 0) 1 19 := by decide +kernel
theorem dX9_partner_19 : am_at cX9_partner 19 (.getfield 10) 3 22 := by decide +kernel
theorem dX9_partner_22 : am_at cX9_partner 22 (.aload_n 0) 1 23 := by decide +kernel
theorem dX9_partner_23 : am_at cX9_partner 23 (.getfield 29) 3 26 := by decide +kernel
theorem dX9_partner_26 : am_at cX9_partner 26 (.invokevirtual 154) 3 29 := by decide +kernel
theorem dX9_partner_29 : am_at cX9_partner 29 (.aload_n 0) 1 30 := by decide +kernel
theorem dX9_partner_30 : am_at cX9_partner 30 (.getfield 43) 3 33 := by decide +kernel
theorem dX9_partner_33 : am_at cX9_partner 33 (.invokevirtual 158) 3 36 := by decide +kernel
theorem dX9_partner_36 : am_at cX9_partner 36 (.aload_n 0) 1 37 := by decide +kernel
theorem dX9_partner_37 : am_at cX9_partner 37 (.getfield 43) 3 40 := by decide +kernel
theorem dX9_partner_40 : am_at cX9_partner 40 (.iload_n 1) 1 41 := by decide +kernel
theorem dX9_partner_41 : am_at cX9_partner 41 (.invokevirtual 164) 3 44 := by decide +kernel
theorem dX9_partner_44 : am_at cX9_partner 44 (.istore_n 2) 1 45 := by decide +kernel
theorem dX9_partner_45 : am_at cX9_partner 45 (.iload_n 2) 1 46 := by decide +kernel
theorem dX9_partner_46 : am_at cX9_partner 46 (.iconst (-1)) 1 47 := by decide +kernel
theorem dX9_partner_47 : am_at cX9_partner 47 (.if_icmp .ne 8) 3 50 := by decide +kernel
theorem dX9_partner_50 : am_at cX9_partner 50 (.ldc 135) 2 52 := by decide +kernel
theorem dX9_partner_52 : am_at cX9_partner 52 (.goto 4) 3 55 := by decide +kernel
theorem dX9_partner_55 : am_at cX9_partner 55 (.iload_n 2) 1 56 := by decide +kernel
theorem dX9_partner_56 : am_at cX9_partner 56 (.ireturn) 1 57 := by decide +kernel
def fxX9_partner (l0 : Option Nat) (l1 : Int32) (h : am_H) : Option (Int32 × am_H) := am_gd (am_ob h l0 9) (am_gd (am_ob h (am_gr h l0 0) 2) (am_bd (fxX2_hasGlove (am_gr h l0 0) l1 h) (fun r1 h2 => if r1 = 0 then (some ((-1000000001 : Int32), h2)) else (am_gd (am_ob h2 l0 9) (am_gd (am_ob h2 l0 9) (am_gd (am_ob h2 l0 9) (am_gd (am_ob h2 (am_gr h2 l0 6) 7) (am_bd (fxX7_weigh (am_gr h2 l0 6) (am_gr h2 l0 0) (am_gr h2 l0 4) h2) (fun _ h3 => am_gd (am_ob h3 l0 9) (am_gd (am_ob h3 (am_gr h3 l0 6) 7) (am_bd (fxX7_pairUp (am_gr h3 l0 6) h3) (fun _ h4 => am_gd (am_ob h4 l0 9) (am_gd (am_ob h4 (am_gr h4 l0 6) 7) (am_bd (fxX7_mateOf (am_gr h4 l0 6) l1 h4) (fun r5 h6 => am_lt r5 (fun x7 => if x7 = (-1 : Int32) then (some ((-1000000005 : Int32), h6)) else (some (x7, h6))))))))))))))))))
set_option maxRecDepth 100000 in
theorem sxX9_partner {xs : List Int32} (l0 : Option Nat) (l1 : Int32) (h : am_H) : am_Sm xs am_ci mX9_partner 5 0 0 0 [some (am_R l0), some (am_I l1), none] [] h (fxX9_partner l0 l1 h) := by
  unfold fxX9_partner
  refine am_aload_n dX9_partner_0 rfl ?_
  refine am_getR dX9_partner_1 fk_RX9_10 rfl ?_
  refine am_iload_n dX9_partner_4 rfl ?_
  refine am_callV (cvj := am_ci) (mtj := mX2_hasGlove) (dj := 1) (nj := 1) (rcj := 0) (rsj := 0) (rc' := 0) (rs' := 0) (ci := 2) (st' := fun a9 => (am_I a9 :: [])) ⟨_, rfl, rfl⟩ [am_I l1] [] dX9_partner_5 okX2_hasGlove lk_RX9_89 (fun zA zH zE => txX2_hasGlove (am_gr h l0 0) l1 h zA zH zE) rfl (fun _ => rfl) (by decide) rfl (Nat.le_of_ble_eq_true rfl) (by decide) (by decide) (fun r1 h2 => ?_)
  refine am_if_ne (tgt := 14) dX9_partner_8 (by decide) (fun c9 => ?_) (fun c9 => ?_)
  · refine am_aload_n dX9_partner_14 rfl ?_
    refine am_getR dX9_partner_15 fk_RX9_43 rfl ?_
    refine am_aload_n dX9_partner_18 rfl ?_
    refine am_getR dX9_partner_19 fk_RX9_10 rfl ?_
    refine am_aload_n dX9_partner_22 rfl ?_
    refine am_getR dX9_partner_23 fk_RX9_29 rfl ?_
    refine am_callV (cvj := am_cu) (mtj := mX7_weigh) (dj := 4) (nj := 2) (rcj := 0) (rsj := 0) (rc' := 0) (rs' := 0) (ci := 7) (st' := fun _ => []) ⟨_, rfl, rfl⟩ [am_R (am_gr h2 l0 0), am_R (am_gr h2 l0 4)] [] dX9_partner_26 okX7_weigh lk_RX9_154 (fun zA zH zE => txX7_weigh (am_gr h2 l0 6) (am_gr h2 l0 0) (am_gr h2 l0 4) h2 zA zH zE) rfl (fun _ => rfl) (by decide) rfl (Nat.le_of_ble_eq_true rfl) (by decide) (by decide) (fun _ h3 => ?_)
    refine am_aload_n dX9_partner_29 rfl ?_
    refine am_getR dX9_partner_30 fk_RX9_43 rfl ?_
    refine am_callV (cvj := am_cu) (mtj := mX7_pairUp) (dj := 2) (nj := 0) (rcj := 0) (rsj := 0) (rc' := 0) (rs' := 0) (ci := 7) (st' := fun _ => []) ⟨_, rfl, rfl⟩ [] [] dX9_partner_33 okX7_pairUp lk_RX9_158 (fun zA zH zE => txX7_pairUp (am_gr h3 l0 6) h3 zA zH zE) rfl (fun _ => rfl) (by decide) rfl (Nat.le_of_ble_eq_true rfl) (by decide) (by decide) (fun _ h4 => ?_)
    refine am_aload_n dX9_partner_36 rfl ?_
    refine am_getR dX9_partner_37 fk_RX9_43 rfl ?_
    refine am_iload_n dX9_partner_40 rfl ?_
    refine am_callV (cvj := am_ci) (mtj := mX7_mateOf) (dj := 1) (nj := 1) (rcj := 0) (rsj := 0) (rc' := 0) (rs' := 0) (ci := 7) (st' := fun a9 => (am_I a9 :: [])) ⟨_, rfl, rfl⟩ [am_I l1] [] dX9_partner_41 okX7_mateOf lk_RX9_164 (fun zA zH zE => txX7_mateOf (am_gr h4 l0 6) l1 h4 zA zH zE) rfl (fun _ => rfl) (by decide) rfl (Nat.le_of_ble_eq_true rfl) (by decide) (by decide) (fun r5 h6 => ?_)
    refine am_istore_n (LL := fun y9 => [some (am_R l0), some (am_I l1), some (am_I y9)]) dX9_partner_44 (by decide) (fun _ => rfl) (fun x7 => ?_)
    refine am_iload_n dX9_partner_45 rfl ?_
    refine am_iconst (v := (-1)) dX9_partner_46 (by decide) ?_
    refine am_icmp_ne (tgt := 55) dX9_partner_47 (by decide) (fun c8 => ?_) (fun c8 => ?_)
    · refine am_iload_n dX9_partner_55 rfl ?_
      exact am_iret dX9_partner_56 rfl rfl
    refine am_ldc (v := (-1000000005)) dX9_partner_50 wd429 ?_
    refine am_goto (tgt := 56) dX9_partner_52 (by decide) ?_
    exact am_iret dX9_partner_56 rfl rfl
  refine am_ldc (v := (-1000000001)) dX9_partner_11 wd316 ?_
  exact am_iret dX9_partner_13 rfl rfl
theorem txX9_partner {xs : List Int32} (l0 : Option Nat) (l1 : Int32) (h : am_H) (a : Int32) (h2 : am_H) (e : fxX9_partner l0 l1 h = some (a, h2)) : am_Ct xs mX9_partner 5 0 0 [am_R l0, am_I l1] h (fun v h3 => v = am_ci a ∧ h3 = h2) := am_meth okX9_partner (Nat.le_of_ble_eq_true rfl) rfl (sxX9_partner l0 l1 h) e
theorem dX9_adds_0 : am_at cX9_adds 0 (.aload_n 0) 1 1 := by decide +kernel
theorem dX9_adds_1 : am_at cX9_adds 1 (.getfield 10) 3 4 := by decide +kernel
theorem dX9_adds_4 : am_at cX9_adds 4 (.iload_n 1) 1 5 := by decide +kernel
theorem dX9_adds_5 : am_at cX9_adds 5 (.invokevirtual 89) 3 8 := by decide +kernel
theorem dX9_adds_8 : am_at cX9_adds 8 (.ifCond .ne 6) 3 11 := by decide +kernel
theorem dX9_adds_11 : am_at cX9_adds 11 (.ldc 84) 2 13 := by decide +kernel
theorem dX9_adds_13 : am_at cX9_adds 13 (.ireturn) 1 14 := by decide +kernel
theorem dX9_adds_14 : am_at cX9_adds 14 (.aload_n 0) 1 15 := by decide +kernel
theorem dX9_adds_15 : am_at cX9_adds 15 (.getfield 43) 3 18 := by decide +kernel
theorem dX9_adds_18 : am_at cX9_adds 18 (.aload_n 0) 1 19 := by decide +kernel
theorem dX9_adds_19 : am_at cX9_adds 19 (.getfield 10) 3 22 := by decide +kernel
theorem dX9_adds_22 : am_at cX9_adds 22 (.aload_n 0) 1 23 := by decide +kernel
theorem dX9_adds_23 : am_at cX9_adds 23 (.getfield 29) 3 26 := by decide +kernel
theorem dX9_adds_26 : am_at cX9_adds 26 (.invokevirtual 154) 3 29 := by decide +kernel
theorem dX9_adds_29 : am_at cX9_adds 29 (.aload_n 0) 1 30 := by decide +kernel
theorem dX9_adds_30 : am_at cX9_adds 30 (.getfield 43) 3 33 := by decide +kernel
theorem dX9_adds_33 : am_at cX9_adds 33 (.invokevirtual 158) 3 36 := by decide +kernel
theorem dX9_adds_36 : am_at cX9_adds 36 (.aload_n 0) 1 37 := by decide +kernel
theorem dX9_adds_37 : am_at cX9_adds 37 (.getfield 10) 3 40 := by decide +kernel
theorem dX9_adds_40 : am_at cX9_adds 40 (.invokevirtual 151) 3 43 := by decide +kernel
theorem dX9_adds_43 : am_at cX9_adds 43 (.istore_n 2) 1 44 := by decide +kernel
theorem dX9_adds_44 : am_at cX9_adds 44 (.aload_n 0) 1 45 := by decide +kernel
theorem dX9_adds_45 : am_at cX9_adds 45 (.getfield 43) 3 48 := by decide +kernel
theorem dX9_adds_48 : am_at cX9_adds 48 (.iload_n 2) 1 49 := by decide +kernel
theorem dX9_adds_49 : am_at cX9_adds 49 (.invokevirtual 161) 3 52 := by decide +kernel
theorem dX9_adds_52 : am_at cX9_adds 52 (.aload_n 0) 1 53 := by decide +kernel
theorem dX9_adds_53 : am_at cX9_adds 53 (.getfield 43) 3 56 := by decide +kernel
theorem dX9_adds_56 : am_at cX9_adds 56 (.iload_n 2) 1 57 := by decide +kernel
theorem dX9_adds_57 : am_at cX9_adds 57 (.iconst 1) 1 58 := by decide +kernel
theorem dX9_adds_58 : am_at cX9_adds 58 (.iload_n 1) 1 59 := by decide +kernel
theorem dX9_adds_59 : am_at cX9_adds 59 (.ishl) 1 60 := by decide +kernel
theorem dX9_adds_60 : am_at cX9_adds 60 (.iconst (-1)) 1 61 := by decide +kernel
theorem dX9_adds_61 : am_at cX9_adds 61 (.ixor) 1 62 := by decide +kernel
theorem dX9_adds_62 : am_at cX9_adds 62 (.iand) 1 63 := by decide +kernel
theorem dX9_adds_63 : am_at cX9_adds 63 (.invokevirtual 161) 3 66 := by decide +kernel
theorem dX9_adds_66 : am_at cX9_adds 66 (.isub) 1 67 := by decide +kernel
theorem dX9_adds_67 : am_at cX9_adds 67 (.ireturn) 1 68 := by decide +kernel
def fxX9_adds (l0 : Option Nat) (l1 : Int32) (h : am_H) : Option (Int32 × am_H) := am_gd (am_ob h l0 9) (am_gd (am_ob h (am_gr h l0 0) 2) (am_bd (fxX2_hasGlove (am_gr h l0 0) l1 h) (fun r1 h2 => if r1 = 0 then (some ((-1000000001 : Int32), h2)) else (am_gd (am_ob h2 l0 9) (am_gd (am_ob h2 l0 9) (am_gd (am_ob h2 l0 9) (am_gd (am_ob h2 (am_gr h2 l0 6) 7) (am_bd (fxX7_weigh (am_gr h2 l0 6) (am_gr h2 l0 0) (am_gr h2 l0 4) h2) (fun _ h3 => am_gd (am_ob h3 l0 9) (am_gd (am_ob h3 (am_gr h3 l0 6) 7) (am_bd (fxX7_pairUp (am_gr h3 l0 6) h3) (fun _ h4 => am_gd (am_ob h4 l0 9) (am_gd (am_ob h4 (am_gr h4 l0 0) 2) (am_bd (fxX2_allGloves (am_gr h4 l0 0) h4) (fun r5 h6 => am_lt r5 (fun x7 => am_gd (am_ob h6 l0 9) (am_gd (am_ob h6 (am_gr h6 l0 6) 7) (am_bd (fxX7_valueOfSet (am_gr h6 l0 6) x7 h6) (fun r8 h9 => am_gd (am_ob h9 l0 9) (am_gd (am_ob h9 (am_gr h9 l0 6) 7) (am_bd (fxX7_valueOfSet (am_gr h9 l0 6) (x7 &&& (((1 : Int32) <<< (l1 &&& 31)) ^^^ (-1 : Int32))) h9) (fun r10 h11 => some ((r8 - r10), h11)))))))))))))))))))))))
set_option maxRecDepth 100000 in
theorem sxX9_adds {xs : List Int32} (l0 : Option Nat) (l1 : Int32) (h : am_H) : am_Sm xs am_ci mX9_adds 5 0 0 0 [some (am_R l0), some (am_I l1), none] [] h (fxX9_adds l0 l1 h) := by
  unfold fxX9_adds
  refine am_aload_n dX9_adds_0 rfl ?_
  refine am_getR dX9_adds_1 fk_RX9_10 rfl ?_
  refine am_iload_n dX9_adds_4 rfl ?_
  refine am_callV (cvj := am_ci) (mtj := mX2_hasGlove) (dj := 1) (nj := 1) (rcj := 0) (rsj := 0) (rc' := 0) (rs' := 0) (ci := 2) (st' := fun a9 => (am_I a9 :: [])) ⟨_, rfl, rfl⟩ [am_I l1] [] dX9_adds_5 okX2_hasGlove lk_RX9_89 (fun zA zH zE => txX2_hasGlove (am_gr h l0 0) l1 h zA zH zE) rfl (fun _ => rfl) (by decide) rfl (Nat.le_of_ble_eq_true rfl) (by decide) (by decide) (fun r1 h2 => ?_)
  refine am_if_ne (tgt := 14) dX9_adds_8 (by decide) (fun c12 => ?_) (fun c12 => ?_)
  · refine am_aload_n dX9_adds_14 rfl ?_
    refine am_getR dX9_adds_15 fk_RX9_43 rfl ?_
    refine am_aload_n dX9_adds_18 rfl ?_
    refine am_getR dX9_adds_19 fk_RX9_10 rfl ?_
    refine am_aload_n dX9_adds_22 rfl ?_
    refine am_getR dX9_adds_23 fk_RX9_29 rfl ?_
    refine am_callV (cvj := am_cu) (mtj := mX7_weigh) (dj := 4) (nj := 2) (rcj := 0) (rsj := 0) (rc' := 0) (rs' := 0) (ci := 7) (st' := fun _ => []) ⟨_, rfl, rfl⟩ [am_R (am_gr h2 l0 0), am_R (am_gr h2 l0 4)] [] dX9_adds_26 okX7_weigh lk_RX9_154 (fun zA zH zE => txX7_weigh (am_gr h2 l0 6) (am_gr h2 l0 0) (am_gr h2 l0 4) h2 zA zH zE) rfl (fun _ => rfl) (by decide) rfl (Nat.le_of_ble_eq_true rfl) (by decide) (by decide) (fun _ h3 => ?_)
    refine am_aload_n dX9_adds_29 rfl ?_
    refine am_getR dX9_adds_30 fk_RX9_43 rfl ?_
    refine am_callV (cvj := am_cu) (mtj := mX7_pairUp) (dj := 2) (nj := 0) (rcj := 0) (rsj := 0) (rc' := 0) (rs' := 0) (ci := 7) (st' := fun _ => []) ⟨_, rfl, rfl⟩ [] [] dX9_adds_33 okX7_pairUp lk_RX9_158 (fun zA zH zE => txX7_pairUp (am_gr h3 l0 6) h3 zA zH zE) rfl (fun _ => rfl) (by decide) rfl (Nat.le_of_ble_eq_true rfl) (by decide) (by decide) (fun _ h4 => ?_)
    refine am_aload_n dX9_adds_36 rfl ?_
    refine am_getR dX9_adds_37 fk_RX9_10 rfl ?_
    refine am_callV (cvj := am_ci) (mtj := mX2_allGloves) (dj := 0) (nj := 0) (rcj := 0) (rsj := 0) (rc' := 0) (rs' := 0) (ci := 2) (st' := fun a9 => (am_I a9 :: [])) ⟨_, rfl, rfl⟩ [] [] dX9_adds_40 okX2_allGloves lk_RX9_151 (fun zA zH zE => txX2_allGloves (am_gr h4 l0 0) h4 zA zH zE) rfl (fun _ => rfl) (by decide) rfl (Nat.le_of_ble_eq_true rfl) (by decide) (by decide) (fun r5 h6 => ?_)
    refine am_istore_n (LL := fun y9 => [some (am_R l0), some (am_I l1), some (am_I y9)]) dX9_adds_43 (by decide) (fun _ => rfl) (fun x7 => ?_)
    refine am_aload_n dX9_adds_44 rfl ?_
    refine am_getR dX9_adds_45 fk_RX9_43 rfl ?_
    refine am_iload_n dX9_adds_48 rfl ?_
    refine am_callV (cvj := am_ci) (mtj := mX7_valueOfSet) (dj := 1) (nj := 1) (rcj := 0) (rsj := 0) (rc' := 0) (rs' := 0) (ci := 7) (st' := fun a9 => (am_I a9 :: [])) ⟨_, rfl, rfl⟩ [am_I x7] [] dX9_adds_49 okX7_valueOfSet lk_RX9_161 (fun zA zH zE => txX7_valueOfSet (am_gr h6 l0 6) x7 h6 zA zH zE) rfl (fun _ => rfl) (by decide) rfl (Nat.le_of_ble_eq_true rfl) (by decide) (by decide) (fun r8 h9 => ?_)
    refine am_aload_n dX9_adds_52 rfl ?_
    refine am_getR dX9_adds_53 fk_RX9_43 rfl ?_
    refine am_iload_n dX9_adds_56 rfl ?_
    refine am_iconst (v := 1) dX9_adds_57 (by decide) ?_
    refine am_iload_n dX9_adds_58 rfl ?_
    refine am_ishl dX9_adds_59 ?_
    refine am_iconst (v := (-1)) dX9_adds_60 (by decide) ?_
    refine am_ixor dX9_adds_61 ?_
    refine am_iand dX9_adds_62 ?_
    refine am_callV (cvj := am_ci) (mtj := mX7_valueOfSet) (dj := 1) (nj := 1) (rcj := 0) (rsj := 0) (rc' := 0) (rs' := 0) (ci := 7) (st' := fun a9 => (am_I a9 :: [am_I r8])) ⟨_, rfl, rfl⟩ [am_I (x7 &&& (((1 : Int32) <<< (l1 &&& 31)) ^^^ (-1 : Int32)))] [am_I r8] dX9_adds_63 okX7_valueOfSet lk_RX9_161 (fun zA zH zE => txX7_valueOfSet (am_gr h9 l0 6) (x7 &&& (((1 : Int32) <<< (l1 &&& 31)) ^^^ (-1 : Int32))) h9 zA zH zE) rfl (fun _ => rfl) (by decide) rfl (Nat.le_of_ble_eq_true rfl) (by decide) (by decide) (fun r10 h11 => ?_)
    refine am_isub dX9_adds_66 ?_
    exact am_iret dX9_adds_67 rfl rfl
  refine am_ldc (v := (-1000000001)) dX9_adds_11 wd316 ?_
  exact am_iret dX9_adds_13 rfl rfl
theorem txX9_adds {xs : List Int32} (l0 : Option Nat) (l1 : Int32) (h : am_H) (a : Int32) (h2 : am_H) (e : fxX9_adds l0 l1 h = some (a, h2)) : am_Ct xs mX9_adds 5 0 0 [am_R l0, am_I l1] h (fun v h3 => v = am_ci a ∧ h3 = h2) := am_meth okX9_adds (Nat.le_of_ble_eq_true rfl) rfl (sxX9_adds l0 l1 h) e
theorem dX9_leaves_0 : am_at cX9_leaves 0 (.iload_n 1) 1 1 := by decide +kernel
theorem dX9_leaves_1 : am_at cX9_leaves 1 (.iconst 0) 1 2 := by decide +kernel
theorem dX9_leaves_2 : am_at cX9_leaves 2 (.iconst 3) 1 3 := by decide +kernel
theorem dX9_leaves_3 : am_at cX9_leaves 3 (.invokestatic 80) 3 6 := by decide +kernel
theorem dX9_leaves_6 : am_at cX9_leaves 6 (.ifCond .ne 6) 3 9 := by decide +kernel
theorem dX9_leaves_9 : am_at cX9_leaves 9 (.ldc 84) 2 11 := by decide +kernel
theorem dX9_leaves_11 : am_at cX9_leaves 11 (.ireturn) 1 12 := by decide +kernel
theorem dX9_leaves_12 : am_at cX9_leaves 12 (.aload_n 0) 1 13 := by decide +kernel
theorem dX9_leaves_13 : am_at cX9_leaves 13 (.getfield 56) 3 16 := by decide +kernel
theorem dX9_leaves_16 : am_at cX9_leaves 16 (.iload_n 1) 1 17 := by decide +kernel
theorem dX9_leaves_17 : am_at cX9_leaves 17 (.aaload) 1 18 := by decide +kernel
theorem dX9_leaves_18 : am_at cX9_leaves 18 (.invokevirtual 167) 3 21 := by decide +kernel
theorem dX9_leaves_21 : am_at cX9_leaves 21 (.ifCond .eq 6) 3 24 := by decide +kernel
theorem dX9_leaves_24 : am_at cX9_leaves 24 (.ldc 171) 2 26 := by decide +kernel
theorem dX9_leaves_26 : am_at cX9_leaves 26 (.ireturn) 1 27 := by decide +kernel
theorem dX9_leaves_27 : am_at cX9_leaves 27 (.aload_n 0) 1 28 := by decide +kernel
theorem dX9_leaves_28 : am_at cX9_leaves 28 (.getfield 43) 3 31 := by decide +kernel
theorem dX9_leaves_31 : am_at cX9_leaves 31 (.aload_n 0) 1 32 := by decide +kernel
theorem dX9_leaves_32 : am_at cX9_leaves 32 (.getfield 10) 3 35 := by decide +kernel
theorem dX9_leaves_35 : am_at cX9_leaves 35 (.aload_n 0) 1 36 := by decide +kernel
theorem dX9_leaves_36 : am_at cX9_leaves 36 (.getfield 29) 3 39 := by decide +kernel
theorem dX9_leaves_39 : am_at cX9_leaves 39 (.invokevirtual 154) 3 42 := by decide +kernel
theorem dX9_leaves_42 : am_at cX9_leaves 42 (.aload_n 0) 1 43 := by decide +kernel
theorem dX9_leaves_43 : am_at cX9_leaves 43 (.getfield 43) 3 46 := by decide +kernel
theorem dX9_leaves_46 : am_at cX9_leaves 46 (.aload_n 0) 1 47 := by decide +kernel
theorem dX9_leaves_47 : am_at cX9_leaves 47 (.getfield 56) 3 50 := by decide +kernel
theorem dX9_leaves_50 : am_at cX9_leaves 50 (.iload_n 1) 1 51 := by decide +kernel
theorem dX9_leaves_51 : am_at cX9_leaves 51 (.aaload) 1 52 := by decide +kernel
theorem dX9_leaves_52 : am_at cX9_leaves 52 (.invokevirtual 172) 3 55 := by decide +kernel
theorem dX9_leaves_55 : am_at cX9_leaves 55 (.aload_n 0) 1 56 := by decide +kernel
theorem dX9_leaves_56 : am_at cX9_leaves 56 (.getfield 43) 3 59 := by decide +kernel
theorem dX9_leaves_59 : am_at cX9_leaves 59 (.invokevirtual 176) 3 62 := by decide +kernel
theorem dX9_leaves_62 : am_at cX9_leaves 62 (.ireturn) 1 63 := by decide +kernel
def fxX9_leaves (l0 : Option Nat) (l1 : Int32) (h : am_H) : Option (Int32 × am_H) := am_bd (fxX9_within l1 (0 : Int32) (3 : Int32) h) (fun r1 h2 => if r1 = 0 then (some ((-1000000001 : Int32), h2)) else (am_gd (am_ob h2 l0 9) (am_gd (am_ix h2 (am_gr h2 l0 8) 5 l1) (am_gd (am_ob h2 (am_gr h2 (am_gr h2 l0 8) l1.toNatClampNeg) 5) (am_bd (fxX5_isMissing (am_gr h2 (am_gr h2 l0 8) l1.toNatClampNeg) h2) (fun r3 h4 => if r3 = 0 then (am_gd (am_ob h4 l0 9) (am_gd (am_ob h4 l0 9) (am_gd (am_ob h4 l0 9) (am_gd (am_ob h4 (am_gr h4 l0 6) 7) (am_bd (fxX7_weigh (am_gr h4 l0 6) (am_gr h4 l0 0) (am_gr h4 l0 4) h4) (fun _ h5 => am_gd (am_ob h5 l0 9) (am_gd (am_ob h5 l0 9) (am_gd (am_ix h5 (am_gr h5 l0 8) 5 l1) (am_gd (am_ob h5 (am_gr h5 l0 6) 7) (am_bd (fxX7_seat (am_gr h5 l0 6) (am_gr h5 (am_gr h5 l0 8) l1.toNatClampNeg) h5) (fun _ h6 => am_gd (am_ob h6 l0 9) (am_gd (am_ob h6 (am_gr h6 l0 6) 7) (am_bd (fxX7_firstToLeave (am_gr h6 l0 6) h6) (fun r7 h8 => some (r7, h8))))))))))))))) else (some ((-1000000011 : Int32), h4))))))))
set_option maxRecDepth 100000 in
theorem sxX9_leaves {xs : List Int32} (l0 : Option Nat) (l1 : Int32) (h : am_H) : am_Sm xs am_ci mX9_leaves 5 0 0 0 [some (am_R l0), some (am_I l1)] [] h (fxX9_leaves l0 l1 h) := by
  unfold fxX9_leaves
  refine am_iload_n dX9_leaves_0 rfl ?_
  refine am_iconst (v := 0) dX9_leaves_1 (by decide) ?_
  refine am_iconst (v := 3) dX9_leaves_2 (by decide) ?_
  refine am_callS (cvj := am_ci) (mtj := mX9_within) (dj := 0) (nj := 3) (rcj := 0) (rsj := 0) (rc' := 0) (rs' := 0) (st' := fun a9 => (am_I a9 :: [])) [am_I l1, am_I (0 : Int32), am_I (3 : Int32)] [] dX9_leaves_3 okX9_within lk_RX9_80 (fun zA zH zE => txX9_within l1 (0 : Int32) (3 : Int32) h zA zH zE) rfl (fun _ => rfl) (by decide) rfl (Nat.le_of_ble_eq_true rfl) (by decide) (by decide) (fun r1 h2 => ?_)
  refine am_if_ne (tgt := 12) dX9_leaves_6 (by decide) (fun c10 => ?_) (fun c10 => ?_)
  · refine am_aload_n dX9_leaves_12 rfl ?_
    refine am_getR dX9_leaves_13 fk_RX9_56 rfl ?_
    refine am_iload_n dX9_leaves_16 rfl ?_
    refine am_aald (t := 5) dX9_leaves_17 (by decide) (by decide) ?_
    refine am_callV (cvj := am_ci) (mtj := mX5_isMissing) (dj := 0) (nj := 0) (rcj := 0) (rsj := 0) (rc' := 0) (rs' := 0) (ci := 5) (st' := fun a9 => (am_I a9 :: [])) ⟨_, rfl, rfl⟩ [] [] dX9_leaves_18 okX5_isMissing lk_RX9_167 (fun zA zH zE => txX5_isMissing (am_gr h2 (am_gr h2 l0 8) l1.toNatClampNeg) h2 zA zH zE) rfl (fun _ => rfl) (by decide) rfl (Nat.le_of_ble_eq_true rfl) (by decide) (by decide) (fun r3 h4 => ?_)
    refine am_if_eq (tgt := 27) dX9_leaves_21 (by decide) (fun c9 => ?_) (fun c9 => ?_)
    · refine am_aload_n dX9_leaves_27 rfl ?_
      refine am_getR dX9_leaves_28 fk_RX9_43 rfl ?_
      refine am_aload_n dX9_leaves_31 rfl ?_
      refine am_getR dX9_leaves_32 fk_RX9_10 rfl ?_
      refine am_aload_n dX9_leaves_35 rfl ?_
      refine am_getR dX9_leaves_36 fk_RX9_29 rfl ?_
      refine am_callV (cvj := am_cu) (mtj := mX7_weigh) (dj := 4) (nj := 2) (rcj := 0) (rsj := 0) (rc' := 0) (rs' := 0) (ci := 7) (st' := fun _ => []) ⟨_, rfl, rfl⟩ [am_R (am_gr h4 l0 0), am_R (am_gr h4 l0 4)] [] dX9_leaves_39 okX7_weigh lk_RX9_154 (fun zA zH zE => txX7_weigh (am_gr h4 l0 6) (am_gr h4 l0 0) (am_gr h4 l0 4) h4 zA zH zE) rfl (fun _ => rfl) (by decide) rfl (Nat.le_of_ble_eq_true rfl) (by decide) (by decide) (fun _ h5 => ?_)
      refine am_aload_n dX9_leaves_42 rfl ?_
      refine am_getR dX9_leaves_43 fk_RX9_43 rfl ?_
      refine am_aload_n dX9_leaves_46 rfl ?_
      refine am_getR dX9_leaves_47 fk_RX9_56 rfl ?_
      refine am_iload_n dX9_leaves_50 rfl ?_
      refine am_aald (t := 5) dX9_leaves_51 (by decide) (by decide) ?_
      refine am_callV (cvj := am_cu) (mtj := mX7_seat) (dj := 4) (nj := 1) (rcj := 0) (rsj := 0) (rc' := 0) (rs' := 0) (ci := 7) (st' := fun _ => []) ⟨_, rfl, rfl⟩ [am_R (am_gr h5 (am_gr h5 l0 8) l1.toNatClampNeg)] [] dX9_leaves_52 okX7_seat lk_RX9_172 (fun zA zH zE => txX7_seat (am_gr h5 l0 6) (am_gr h5 (am_gr h5 l0 8) l1.toNatClampNeg) h5 zA zH zE) rfl (fun _ => rfl) (by decide) rfl (Nat.le_of_ble_eq_true rfl) (by decide) (by decide) (fun _ h6 => ?_)
      refine am_aload_n dX9_leaves_55 rfl ?_
      refine am_getR dX9_leaves_56 fk_RX9_43 rfl ?_
      refine am_callV (cvj := am_ci) (mtj := mX7_firstToLeave) (dj := 1) (nj := 0) (rcj := 0) (rsj := 0) (rc' := 0) (rs' := 0) (ci := 7) (st' := fun a9 => (am_I a9 :: [])) ⟨_, rfl, rfl⟩ [] [] dX9_leaves_59 okX7_firstToLeave lk_RX9_176 (fun zA zH zE => txX7_firstToLeave (am_gr h6 l0 6) h6 zA zH zE) rfl (fun _ => rfl) (by decide) rfl (Nat.le_of_ble_eq_true rfl) (by decide) (by decide) (fun r7 h8 => ?_)
      exact am_iret dX9_leaves_62 rfl rfl
    refine am_ldc (v := (-1000000011)) dX9_leaves_24 wd499 ?_
    exact am_iret dX9_leaves_26 rfl rfl
  refine am_ldc (v := (-1000000001)) dX9_leaves_9 wd316 ?_
  exact am_iret dX9_leaves_11 rfl rfl
theorem txX9_leaves {xs : List Int32} (l0 : Option Nat) (l1 : Int32) (h : am_H) (a : Int32) (h2 : am_H) (e : fxX9_leaves l0 l1 h = some (a, h2)) : am_Ct xs mX9_leaves 5 0 0 [am_R l0, am_I l1] h (fun v h3 => v = am_ci a ∧ h3 = h2) := am_meth okX9_leaves (Nat.le_of_ble_eq_true rfl) rfl (sxX9_leaves l0 l1 h) e
theorem dX9_loss_0 : am_at cX9_loss 0 (.iload_n 1) 1 1 := by decide +kernel
theorem dX9_loss_1 : am_at cX9_loss 1 (.iconst 0) 1 2 := by decide +kernel
theorem dX9_loss_2 : am_at cX9_loss 2 (.bipush 100) 2 4 := by decide +kernel
theorem dX9_loss_4 : am_at cX9_loss 4 (.invokestatic 80) 3 7 := by decide +kernel
theorem dX9_loss_7 : am_at cX9_loss 7 (.ifCond .ne 6) 3 10 := by decide +kernel
theorem dX9_loss_10 : am_at cX9_loss 10 (.ldc 84) 2 12 := by decide +kernel
theorem dX9_loss_12 : am_at cX9_loss 12 (.ireturn) 1 13 := by decide +kernel
theorem dX9_loss_13 : am_at cX9_loss 13 (.aload_n 0) 1 14 := by decide +kernel
theorem dX9_loss_14 : am_at cX9_loss 14 (.getfield 10) 3 17 := by decide +kernel
theorem dX9_loss_17 : am_at cX9_loss 17 (.getfield 179) 3 20 := by decide +kernel
theorem dX9_loss_20 : am_at cX9_loss 20 (.istore_n 2) 1 21 := by decide +kernel
theorem dX9_loss_21 : am_at cX9_loss 21 (.aload_n 0) 1 22 := by decide +kernel
theorem dX9_loss_22 : am_at cX9_loss 22 (.getfield 10) 3 25 := by decide +kernel
theorem dX9_loss_25 : am_at cX9_loss 25 (.iload_n 1) 1 26 := by decide +kernel
theorem dX9_loss_26 : am_at cX9_loss 26 (.putfield 179) 3 29 := by decide +kernel
theorem dX9_loss_29 : am_at cX9_loss 29 (.iload_n 2) 1 30 := by decide +kernel
theorem dX9_loss_30 : am_at cX9_loss 30 (.ireturn) 1 31 := by decide +kernel
def fxX9_loss (l0 : Option Nat) (l1 : Int32) (h : am_H) : Option (Int32 × am_H) := am_bd (fxX9_within l1 (0 : Int32) (100 : Int32) h) (fun r1 h2 => if r1 = 0 then (some ((-1000000001 : Int32), h2)) else (am_gd (am_ob h2 l0 9) (am_gd (am_ob h2 (am_gr h2 l0 0) 2) (am_lt (am_gi h2 (am_gr h2 l0 0) 2) (fun x3 => am_gd (am_ob h2 l0 9) (am_gd (am_ob h2 (am_gr h2 l0 0) 2) (am_lt (am_si h2 (am_gr h2 l0 0) 2 l1) (fun h4 => some (x3, h4)))))))))
set_option maxRecDepth 100000 in
theorem sxX9_loss {xs : List Int32} (l0 : Option Nat) (l1 : Int32) (h : am_H) : am_Sm xs am_ci mX9_loss 1 0 0 0 [some (am_R l0), some (am_I l1), none] [] h (fxX9_loss l0 l1 h) := by
  unfold fxX9_loss
  refine am_iload_n dX9_loss_0 rfl ?_
  refine am_iconst (v := 0) dX9_loss_1 (by decide) ?_
  refine am_bipush (v := 100) dX9_loss_2 (by decide) ?_
  refine am_callS (cvj := am_ci) (mtj := mX9_within) (dj := 0) (nj := 3) (rcj := 0) (rsj := 0) (rc' := 0) (rs' := 0) (st' := fun a9 => (am_I a9 :: [])) [am_I l1, am_I (0 : Int32), am_I (100 : Int32)] [] dX9_loss_4 okX9_within lk_RX9_80 (fun zA zH zE => txX9_within l1 (0 : Int32) (100 : Int32) h zA zH zE) rfl (fun _ => rfl) (by decide) rfl (Nat.le_of_ble_eq_true rfl) (by decide) (by decide) (fun r1 h2 => ?_)
  refine am_if_ne (tgt := 13) dX9_loss_7 (by decide) (fun c5 => ?_) (fun c5 => ?_)
  · refine am_aload_n dX9_loss_13 rfl ?_
    refine am_getR dX9_loss_14 fk_RX9_10 rfl ?_
    refine am_getI dX9_loss_17 fk_RX9_179 rfl ?_
    refine am_istore_n (LL := fun y9 => [some (am_R l0), some (am_I l1), some (am_I y9)]) dX9_loss_20 (by decide) (fun _ => rfl) (fun x3 => ?_)
    refine am_aload_n dX9_loss_21 rfl ?_
    refine am_getR dX9_loss_22 fk_RX9_10 rfl ?_
    refine am_iload_n dX9_loss_25 rfl ?_
    refine am_putI dX9_loss_26 fk_RX9_179 ⟨_, rfl, Or.inl rfl⟩ rfl (fun h4 => ?_)
    refine am_iload_n dX9_loss_29 rfl ?_
    exact am_iret dX9_loss_30 rfl rfl
  refine am_ldc (v := (-1000000001)) dX9_loss_10 wd316 ?_
  exact am_iret dX9_loss_12 rfl rfl
theorem txX9_loss {xs : List Int32} (l0 : Option Nat) (l1 : Int32) (h : am_H) (a : Int32) (h2 : am_H) (e : fxX9_loss l0 l1 h = some (a, h2)) : am_Ct xs mX9_loss 1 0 0 [am_R l0, am_I l1] h (fun v h3 => v = am_ci a ∧ h3 = h2) := am_meth okX9_loss (Nat.le_of_ble_eq_true rfl) rfl (sxX9_loss l0 l1 h) e
theorem dX9_days_0 : am_at cX9_days 0 (.iload_n 1) 1 1 := by decide +kernel
theorem dX9_days_1 : am_at cX9_days 1 (.iconst 1) 1 2 := by decide +kernel
theorem dX9_days_2 : am_at cX9_days 2 (.bipush 100) 2 4 := by decide +kernel
theorem dX9_days_4 : am_at cX9_days 4 (.invokestatic 80) 3 7 := by decide +kernel
theorem dX9_days_7 : am_at cX9_days 7 (.ifCond .ne 6) 3 10 := by decide +kernel
theorem dX9_days_10 : am_at cX9_days 10 (.ldc 84) 2 12 := by decide +kernel
theorem dX9_days_12 : am_at cX9_days 12 (.ireturn) 1 13 := by decide +kernel
theorem dX9_days_13 : am_at cX9_days 13 (.aload_n 0) 1 14 := by decide +kernel
theorem dX9_days_14 : am_at cX9_days 14 (.getfield 10) 3 17 := by decide +kernel
theorem dX9_days_17 : am_at cX9_days 17 (.invokevirtual 182) 3 20 := by decide +kernel
theorem dX9_days_20 : am_at cX9_days 20 (.istore_n 2) 1 21 := by decide +kernel
theorem dX9_days_21 : am_at cX9_days 21 (.aload_n 0) 1 22 := by decide +kernel
theorem dX9_days_22 : am_at cX9_days 22 (.getfield 10) 3 25 := by decide +kernel
theorem dX9_days_25 : am_at cX9_days 25 (.iload_n 1) 1 26 := by decide +kernel
theorem dX9_days_26 : am_at cX9_days 26 (.sipush 9999) 3 29 := by decide +kernel
theorem dX9_days_29 : am_at cX9_days 29 (.aload_n 0) 1 30 := by decide +kernel
theorem dX9_days_30 : am_at cX9_days 30 (.getfield 10) 3 33 := by decide +kernel
theorem dX9_days_33 : am_at cX9_days 33 (.getfield 185) 3 36 := by decide +kernel
theorem dX9_days_36 : am_at cX9_days 36 (.isub) 1 37 := by decide +kernel
theorem dX9_days_37 : am_at cX9_days 37 (.invokestatic 139) 3 40 := by decide +kernel
theorem dX9_days_40 : am_at cX9_days 40 (.iconst (-1)) 1 41 := by decide +kernel
theorem dX9_days_41 : am_at cX9_days 41 (.aload_n 0) 1 42 := by decide +kernel
theorem dX9_days_42 : am_at cX9_days 42 (.getfield 29) 3 45 := by decide +kernel
theorem dX9_days_45 : am_at cX9_days 45 (.invokevirtual 188) 3 48 := by decide +kernel
theorem dX9_days_48 : am_at cX9_days 48 (.aload_n 0) 1 49 := by decide +kernel
theorem dX9_days_49 : am_at cX9_days 49 (.getfield 10) 3 52 := by decide +kernel
theorem dX9_days_52 : am_at cX9_days 52 (.invokevirtual 182) 3 55 := by decide +kernel
theorem dX9_days_55 : am_at cX9_days 55 (.iload_n 2) 1 56 := by decide +kernel
theorem dX9_days_56 : am_at cX9_days 56 (.isub) 1 57 := by decide +kernel
theorem dX9_days_57 : am_at cX9_days 57 (.ireturn) 1 58 := by decide +kernel
def fxX9_days (l0 : Option Nat) (l1 : Int32) (h : am_H) : Option (Int32 × am_H) := am_bd (fxX9_within l1 (1 : Int32) (100 : Int32) h) (fun r1 h2 => if r1 = 0 then (some ((-1000000001 : Int32), h2)) else (am_gd (am_ob h2 l0 9) (am_gd (am_ob h2 (am_gr h2 l0 0) 2) (am_bd (fxX2_lostCount (am_gr h2 l0 0) h2) (fun r3 h4 => am_lt r3 (fun x5 => am_gd (am_ob h4 l0 9) (am_gd (am_ob h4 l0 9) (am_gd (am_ob h4 (am_gr h4 l0 0) 2) (am_gd (am_ob h4 l0 9) (am_gd (am_ob h4 (am_gr h4 l0 0) 2) (am_bd (fxX2_live (am_gr h4 l0 0) (am_mmin l1 ((9999 : Int32) - (am_gi h4 (am_gr h4 l0 0) 3))) (-1 : Int32) (am_gr h4 l0 4) h4) (fun _ h6 => am_gd (am_ob h6 l0 9) (am_gd (am_ob h6 (am_gr h6 l0 0) 2) (am_bd (fxX2_lostCount (am_gr h6 l0 0) h6) (fun r7 h8 => some ((r7 - x5), h8))))))))))))))))
set_option maxRecDepth 100000 in
theorem sxX9_days {xs : List Int32} (l0 : Option Nat) (l1 : Int32) (h : am_H) : am_Sm xs am_ci mX9_days 5 0 0 0 [some (am_R l0), some (am_I l1), none] [] h (fxX9_days l0 l1 h) := by
  unfold fxX9_days
  refine am_iload_n dX9_days_0 rfl ?_
  refine am_iconst (v := 1) dX9_days_1 (by decide) ?_
  refine am_bipush (v := 100) dX9_days_2 (by decide) ?_
  refine am_callS (cvj := am_ci) (mtj := mX9_within) (dj := 0) (nj := 3) (rcj := 0) (rsj := 0) (rc' := 0) (rs' := 0) (st' := fun a9 => (am_I a9 :: [])) [am_I l1, am_I (1 : Int32), am_I (100 : Int32)] [] dX9_days_4 okX9_within lk_RX9_80 (fun zA zH zE => txX9_within l1 (1 : Int32) (100 : Int32) h zA zH zE) rfl (fun _ => rfl) (by decide) rfl (Nat.le_of_ble_eq_true rfl) (by decide) (by decide) (fun r1 h2 => ?_)
  refine am_if_ne (tgt := 13) dX9_days_7 (by decide) (fun c9 => ?_) (fun c9 => ?_)
  · refine am_aload_n dX9_days_13 rfl ?_
    refine am_getR dX9_days_14 fk_RX9_10 rfl ?_
    refine am_callV (cvj := am_ci) (mtj := mX2_lostCount) (dj := 0) (nj := 0) (rcj := 0) (rsj := 0) (rc' := 0) (rs' := 0) (ci := 2) (st' := fun a9 => (am_I a9 :: [])) ⟨_, rfl, rfl⟩ [] [] dX9_days_17 okX2_lostCount lk_RX9_182 (fun zA zH zE => txX2_lostCount (am_gr h2 l0 0) h2 zA zH zE) rfl (fun _ => rfl) (by decide) rfl (Nat.le_of_ble_eq_true rfl) (by decide) (by decide) (fun r3 h4 => ?_)
    refine am_istore_n (LL := fun y9 => [some (am_R l0), some (am_I l1), some (am_I y9)]) dX9_days_20 (by decide) (fun _ => rfl) (fun x5 => ?_)
    refine am_aload_n dX9_days_21 rfl ?_
    refine am_getR dX9_days_22 fk_RX9_10 rfl ?_
    refine am_iload_n dX9_days_25 rfl ?_
    refine am_sipush (v := 9999) dX9_days_26 (by decide) ?_
    refine am_aload_n dX9_days_29 rfl ?_
    refine am_getR dX9_days_30 fk_RX9_10 rfl ?_
    refine am_getI dX9_days_33 fk_RX9_185 rfl ?_
    refine am_isub dX9_days_36 ?_
    refine am_mmin9 dX9_days_37 wd427 wd407 wd12 wd408 (by decide) (Nat.le_of_ble_eq_true rfl) ?_
    refine am_iconst (v := (-1)) dX9_days_40 (by decide) ?_
    refine am_aload_n dX9_days_41 rfl ?_
    refine am_getR dX9_days_42 fk_RX9_29 rfl ?_
    refine am_callV (cvj := am_cu) (mtj := mX2_live) (dj := 4) (nj := 3) (rcj := 0) (rsj := 0) (rc' := 0) (rs' := 0) (ci := 2) (st' := fun _ => []) ⟨_, rfl, rfl⟩ [am_I (am_mmin l1 ((9999 : Int32) - (am_gi h4 (am_gr h4 l0 0) 3))), am_I (-1 : Int32), am_R (am_gr h4 l0 4)] [] dX9_days_45 okX2_live lk_RX9_188 (fun zA zH zE => txX2_live (am_gr h4 l0 0) (am_mmin l1 ((9999 : Int32) - (am_gi h4 (am_gr h4 l0 0) 3))) (-1 : Int32) (am_gr h4 l0 4) h4 zA zH zE) rfl (fun _ => rfl) (by decide) rfl (Nat.le_of_ble_eq_true rfl) (by decide) (by decide) (fun _ h6 => ?_)
    refine am_aload_n dX9_days_48 rfl ?_
    refine am_getR dX9_days_49 fk_RX9_10 rfl ?_
    refine am_callV (cvj := am_ci) (mtj := mX2_lostCount) (dj := 0) (nj := 0) (rcj := 0) (rsj := 0) (rc' := 0) (rs' := 0) (ci := 2) (st' := fun a9 => (am_I a9 :: [])) ⟨_, rfl, rfl⟩ [] [] dX9_days_52 okX2_lostCount lk_RX9_182 (fun zA zH zE => txX2_lostCount (am_gr h6 l0 0) h6 zA zH zE) rfl (fun _ => rfl) (by decide) rfl (Nat.le_of_ble_eq_true rfl) (by decide) (by decide) (fun r7 h8 => ?_)
    refine am_iload_n dX9_days_55 rfl ?_
    refine am_isub dX9_days_56 ?_
    exact am_iret dX9_days_57 rfl rfl
  refine am_ldc (v := (-1000000001)) dX9_days_10 wd316 ?_
  exact am_iret dX9_days_12 rfl rfl
theorem txX9_days {xs : List Int32} (l0 : Option Nat) (l1 : Int32) (h : am_H) (a : Int32) (h2 : am_H) (e : fxX9_days l0 l1 h = some (a, h2)) : am_Ct xs mX9_days 5 0 0 [am_R l0, am_I l1] h (fun v h3 => v = am_ci a ∧ h3 = h2) := am_meth okX9_days (Nat.le_of_ble_eq_true rfl) rfl (sxX9_days l0 l1 h) e
theorem dX9_bestOfThought_0 : am_at cX9_bestOfThought 0 (.aload_n 0) 1 1 := by decide +kernel
theorem dX9_bestOfThought_1 : am_at cX9_bestOfThought 1 (.getfield 43) 3 4 := by decide +kernel
theorem dX9_bestOfThought_4 : am_at cX9_bestOfThought 4 (.aload_n 0) 1 5 := by decide +kernel
theorem dX9_bestOfThought_5 : am_at cX9_bestOfThought 5 (.getfield 19) 3 8 := by decide +kernel
theorem dX9_bestOfThought_8 : am_at cX9_bestOfThought 8 (.aload_n 0) 1 9 := by decide +kernel
theorem dX9_bestOfThought_9 : am_at cX9_bestOfThought 9 (.getfield 29) 3 12 := by decide +kernel
theorem dX9_bestOfThought_12 : am_at cX9_bestOfThought 12 (.invokevirtual 154) 3 15 := by decide +kernel
theorem dX9_bestOfThought_15 : am_at cX9_bestOfThought 15 (.aload_n 0) 1 16 := by decide +kernel
theorem dX9_bestOfThought_16 : am_at cX9_bestOfThought 16 (.getfield 43) 3 19 := by decide +kernel
theorem dX9_bestOfThought_19 : am_at cX9_bestOfThought 19 (.invokevirtual 158) 3 22 := by decide +kernel
theorem dX9_bestOfThought_22 : am_at cX9_bestOfThought 22 (.aload_n 0) 1 23 := by decide +kernel
theorem dX9_bestOfThought_23 : am_at cX9_bestOfThought 23 (.getfield 43) 3 26 := by decide +kernel
theorem dX9_bestOfThought_26 : am_at cX9_bestOfThought 26 (.aload_n 0) 1 27 := by decide +kernel
theorem dX9_bestOfThought_27 : am_at cX9_bestOfThought 27 (.getfield 19) 3 30 := by decide +kernel
theorem dX9_bestOfThought_30 : am_at cX9_bestOfThought 30 (.invokevirtual 151) 3 33 := by decide +kernel
theorem dX9_bestOfThought_33 : am_at cX9_bestOfThought 33 (.invokevirtual 161) 3 36 := by decide +kernel
theorem dX9_bestOfThought_36 : am_at cX9_bestOfThought 36 (.ireturn) 1 37 := by decide +kernel
def fxX9_bestOfThought (l0 : Option Nat) (h : am_H) : Option (Int32 × am_H) := am_gd (am_ob h l0 9) (am_gd (am_ob h l0 9) (am_gd (am_ob h l0 9) (am_gd (am_ob h (am_gr h l0 6) 7) (am_bd (fxX7_weigh (am_gr h l0 6) (am_gr h l0 2) (am_gr h l0 4) h) (fun _ h1 => am_gd (am_ob h1 l0 9) (am_gd (am_ob h1 (am_gr h1 l0 6) 7) (am_bd (fxX7_pairUp (am_gr h1 l0 6) h1) (fun _ h2 => am_gd (am_ob h2 l0 9) (am_gd (am_ob h2 l0 9) (am_gd (am_ob h2 (am_gr h2 l0 2) 2) (am_bd (fxX2_allGloves (am_gr h2 l0 2) h2) (fun r3 h4 => am_gd (am_ob h4 (am_gr h2 l0 6) 7) (am_bd (fxX7_valueOfSet (am_gr h2 l0 6) r3 h4) (fun r5 h6 => some (r5, h6)))))))))))))))
set_option maxRecDepth 100000 in
theorem sxX9_bestOfThought {xs : List Int32} (l0 : Option Nat) (h : am_H) : am_Sm xs am_ci mX9_bestOfThought 5 0 0 0 [some (am_R l0)] [] h (fxX9_bestOfThought l0 h) := by
  unfold fxX9_bestOfThought
  refine am_aload_n dX9_bestOfThought_0 rfl ?_
  refine am_getR dX9_bestOfThought_1 fk_RX9_43 rfl ?_
  refine am_aload_n dX9_bestOfThought_4 rfl ?_
  refine am_getR dX9_bestOfThought_5 fk_RX9_19 rfl ?_
  refine am_aload_n dX9_bestOfThought_8 rfl ?_
  refine am_getR dX9_bestOfThought_9 fk_RX9_29 rfl ?_
  refine am_callV (cvj := am_cu) (mtj := mX7_weigh) (dj := 4) (nj := 2) (rcj := 0) (rsj := 0) (rc' := 0) (rs' := 0) (ci := 7) (st' := fun _ => []) ⟨_, rfl, rfl⟩ [am_R (am_gr h l0 2), am_R (am_gr h l0 4)] [] dX9_bestOfThought_12 okX7_weigh lk_RX9_154 (fun zA zH zE => txX7_weigh (am_gr h l0 6) (am_gr h l0 2) (am_gr h l0 4) h zA zH zE) rfl (fun _ => rfl) (by decide) rfl (Nat.le_of_ble_eq_true rfl) (by decide) (by decide) (fun _ h1 => ?_)
  refine am_aload_n dX9_bestOfThought_15 rfl ?_
  refine am_getR dX9_bestOfThought_16 fk_RX9_43 rfl ?_
  refine am_callV (cvj := am_cu) (mtj := mX7_pairUp) (dj := 2) (nj := 0) (rcj := 0) (rsj := 0) (rc' := 0) (rs' := 0) (ci := 7) (st' := fun _ => []) ⟨_, rfl, rfl⟩ [] [] dX9_bestOfThought_19 okX7_pairUp lk_RX9_158 (fun zA zH zE => txX7_pairUp (am_gr h1 l0 6) h1 zA zH zE) rfl (fun _ => rfl) (by decide) rfl (Nat.le_of_ble_eq_true rfl) (by decide) (by decide) (fun _ h2 => ?_)
  refine am_aload_n dX9_bestOfThought_22 rfl ?_
  refine am_getR dX9_bestOfThought_23 fk_RX9_43 rfl ?_
  refine am_aload_n dX9_bestOfThought_26 rfl ?_
  refine am_getR dX9_bestOfThought_27 fk_RX9_19 rfl ?_
  refine am_callV (cvj := am_ci) (mtj := mX2_allGloves) (dj := 0) (nj := 0) (rcj := 0) (rsj := 0) (rc' := 0) (rs' := 0) (ci := 2) (st' := fun a9 => (am_I a9 :: [am_R (am_gr h2 l0 6)])) ⟨_, rfl, rfl⟩ [] [am_R (am_gr h2 l0 6)] dX9_bestOfThought_30 okX2_allGloves lk_RX9_151 (fun zA zH zE => txX2_allGloves (am_gr h2 l0 2) h2 zA zH zE) rfl (fun _ => rfl) (by decide) rfl (Nat.le_of_ble_eq_true rfl) (by decide) (by decide) (fun r3 h4 => ?_)
  refine am_callV (cvj := am_ci) (mtj := mX7_valueOfSet) (dj := 1) (nj := 1) (rcj := 0) (rsj := 0) (rc' := 0) (rs' := 0) (ci := 7) (st' := fun a9 => (am_I a9 :: [])) ⟨_, rfl, rfl⟩ [am_I r3] [] dX9_bestOfThought_33 okX7_valueOfSet lk_RX9_161 (fun zA zH zE => txX7_valueOfSet (am_gr h2 l0 6) r3 h4 zA zH zE) rfl (fun _ => rfl) (by decide) rfl (Nat.le_of_ble_eq_true rfl) (by decide) (by decide) (fun r5 h6 => ?_)
  exact am_iret dX9_bestOfThought_36 rfl rfl
theorem txX9_bestOfThought {xs : List Int32} (l0 : Option Nat) (h : am_H) (a : Int32) (h2 : am_H) (e : fxX9_bestOfThought l0 h = some (a, h2)) : am_Ct xs mX9_bestOfThought 5 0 0 [am_R l0] h (fun v h3 => v = am_ci a ∧ h3 = h2) := am_meth okX9_bestOfThought (Nat.le_of_ble_eq_true rfl) rfl (sxX9_bestOfThought l0 h) e
