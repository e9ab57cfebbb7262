theorem dX10_textTold_0 : am_at cX10_textTold 0 (.iload_n 1) 1 1 := by decide +kernel
theorem dX10_textTold_1 : am_at cX10_textTold 1 (.iconst 0) 1 2 := by decide +kernel
theorem dX10_textTold_2 : am_at cX10_textTold 2 (.aload_n 0) 1 3 := by decide +kernel
theorem dX10_textTold_3 : am_at cX10_textTold 3 (.getfield 9) 3 6 := by decide +kernel
theorem dX10_textTold_6 : am_at cX10_textTold 6 (.iconst 5) 1 7 := by decide +kernel
theorem dX10_textTold_7 : am_at cX10_textTold 7 (.iaload) 1 8 := by decide +kernel
theorem dX10_textTold_8 : am_at cX10_textTold 8 (.iconst 1) 1 9 := by decide +kernel
theorem dX10_textTold_9 : am_at cX10_textTold 9 (.isub) 1 10 := by decide +kernel
theorem dX10_textTold_10 : am_at cX10_textTold 10 (.invokestatic 85) 3 13 := by decide +kernel
theorem dX10_textTold_13 : am_at cX10_textTold 13 (.ifCond .eq 12) 3 16 := by decide +kernel
theorem dX10_textTold_16 : am_at cX10_textTold 16 (.iload_n 2) 1 17 := by decide +kernel
theorem dX10_textTold_17 : am_at cX10_textTold 17 (.iconst 0) 1 18 := by decide +kernel
theorem dX10_textTold_18 : am_at cX10_textTold 18 (.iconst 1) 1 19 := by decide +kernel
theorem dX10_textTold_19 : am_at cX10_textTold 19 (.invokestatic 85) 3 22 := by decide +kernel
theorem dX10_textTold_22 : am_at cX10_textTold 22 (.ifCond .ne 6) 3 25 := by decide +kernel
theorem dX10_textTold_25 : am_at cX10_textTold 25 (.ldc 93) 2 27 := by decide +kernel
theorem dX10_textTold_27 : am_at cX10_textTold 27 (.ireturn) 1 28 := by decide +kernel
theorem dX10_textTold_28 : am_at cX10_textTold 28 (.iload_n 2) 1 29 := by decide +kernel
theorem dX10_textTold_29 : am_at cX10_textTold 29 (.ifCond .ne 21) 3 32 := by decide +kernel
theorem dX10_textTold_32 : am_at cX10_textTold 32 (.aload_n 0) 1 33 := by decide +kernel
theorem dX10_textTold_33 : am_at cX10_textTold 33 (.getfield 9) 3 36 := by decide +kernel
theorem dX10_textTold_36 : am_at cX10_textTold 36 (.bipush 76) 2 38 := by decide +kernel
theorem dX10_textTold_38 : am_at cX10_textTold 38 (.iconst 2) 1 39 := by decide +kernel
theorem dX10_textTold_39 : am_at cX10_textTold 39 (.iload_n 1) 1 40 := by decide +kernel
theorem dX10_textTold_40 : am_at cX10_textTold 40 (.imul) 1 41 := by decide +kernel
theorem dX10_textTold_41 : am_at cX10_textTold 41 (.iadd) 1 42 := by decide +kernel
theorem dX10_textTold_42 : am_at cX10_textTold 42 (.iaload) 1 43 := by decide +kernel
theorem dX10_textTold_43 : am_at cX10_textTold 43 (.sipush 1000) 3 46 := by decide +kernel
theorem dX10_textTold_46 : am_at cX10_textTold 46 (.idiv) 1 47 := by decide +kernel
theorem dX10_textTold_47 : am_at cX10_textTold 47 (.goto 16) 3 50 := by decide +kernel
theorem dX10_textTold_50 : am_at cX10_textTold 50 (.aload_n 0) 1 51 := by decide +kernel
theorem dX10_textTold_51 : am_at cX10_textTold 51 (.getfield 9) 3 54 := by decide +kernel
theorem dX10_textTold_54 : am_at cX10_textTold 54 (.bipush 76) 2 56 := by decide +kernel
theorem dX10_textTold_56 : am_at cX10_textTold 56 (.iconst 2) 1 57 := by decide +kernel
theorem dX10_textTold_57 : am_at cX10_textTold 57 (.iload_n 1) 1 58 := by decide +kernel
theorem dX10_textTold_58 : am_at cX10_textTold 58 (.imul) 1 59 := by decide +kernel
theorem dX10_textTold_59 : am_at cX10_textTold 59 (.iadd) 1 60 := by decide +kernel
theorem dX10_textTold_60 : am_at cX10_textTold 60 (.iconst 1) 1 61 := by decide +kernel
theorem dX10_textTold_61 : am_at cX10_textTold 61 (.iadd) 1 62 := by decide +kernel
theorem dX10_textTold_62 : am_at cX10_textTold 62 (.iaload) 1 63 := by decide +kernel
theorem dX10_textTold_63 : am_at cX10_textTold 63 (.ireturn) 1 64 := by decide +kernel
def fxX10_textTold (l0 : Option Nat) (l1 : Int32) (l2 : Int32) (h : am_H) : Option (Int32 × am_H) := am_gd (am_ob h l0 10) (am_gd (am_ix h (am_gr h l0 0) 0 (5 : Int32)) (am_bd (fxX10_in l1 (0 : Int32) ((am_gi h (am_gr h l0 0) (5 : Int32).toNatClampNeg) - (1 : Int32)) h) (fun r1 h2 => if r1 = 0 then (some ((-1000000001 : Int32), h2)) else (am_bd (fxX10_in l2 (0 : Int32) (1 : Int32) h2) (fun r3 h4 => if r3 = 0 then (some ((-1000000001 : Int32), h4)) else (if l2 = 0 then (am_gd (am_ob h4 l0 10) (am_gd (am_ix h4 (am_gr h4 l0 0) 0 ((76 : Int32) + ((2 : Int32) * l1))) (am_gd (am_nz (1000 : Int32)) (some (((am_gi h4 (am_gr h4 l0 0) ((76 : Int32) + ((2 : Int32) * l1)).toNatClampNeg) / (1000 : Int32)), h4))))) else (am_gd (am_ob h4 l0 10) (am_gd (am_ix h4 (am_gr h4 l0 0) 0 (((76 : Int32) + ((2 : Int32) * l1)) + (1 : Int32))) (some ((am_gi h4 (am_gr h4 l0 0) (((76 : Int32) + ((2 : Int32) * l1)) + (1 : Int32)).toNatClampNeg), h4))))))))))
set_option maxRecDepth 100000 in
theorem sxX10_textTold {xs : List Int32} (l0 : Option Nat) (l1 : Int32) (l2 : Int32) (h : am_H) : am_Sm xs am_ci mX10_textTold 1 0 0 0 [some (am_R l0), some (am_I l1), some (am_I l2)] [] h (fxX10_textTold l0 l1 l2 h) := by
  unfold fxX10_textTold
  refine am_iload_n dX10_textTold_0 rfl ?_
  refine am_iconst (v := 0) dX10_textTold_1 (by decide) ?_
  refine am_aload_n dX10_textTold_2 rfl ?_
  refine am_getR dX10_textTold_3 fk_RX10_9 rfl ?_
  refine am_iconst (v := 5) dX10_textTold_6 (by decide) ?_
  refine am_iald dX10_textTold_7 ?_
  refine am_iconst (v := 1) dX10_textTold_8 (by decide) ?_
  refine am_isub dX10_textTold_9 ?_
  refine am_callS (cvj := am_ci) (mtj := mX10_in) (dj := 0) (nj := 3) (rcj := 0) (rsj := 0) (rc' := 0) (rs' := 0) (st' := fun a9 => (am_I a9 :: [])) [am_I l1, am_I (0 : Int32), am_I ((am_gi h (am_gr h l0 0) (5 : Int32).toNatClampNeg) - (1 : Int32))] [] dX10_textTold_10 okX10_in lk_RX10_85 (fun zA zH zE => txX10_in l1 (0 : Int32) ((am_gi h (am_gr h l0 0) (5 : Int32).toNatClampNeg) - (1 : Int32)) h zA zH zE) rfl (fun _ => rfl) (by decide) rfl (Nat.le_of_ble_eq_true rfl) (by decide) (by decide) (fun r1 h2 => ?_)
  refine am_if_eq (tgt := 25) dX10_textTold_13 (by decide) (fun c7 => ?_) (fun c7 => ?_)
  · refine am_ldc (v := (-1000000001)) dX10_textTold_25 wd1060 ?_
    exact am_iret dX10_textTold_27 rfl rfl
  refine am_iload_n dX10_textTold_16 rfl ?_
  refine am_iconst (v := 0) dX10_textTold_17 (by decide) ?_
  refine am_iconst (v := 1) dX10_textTold_18 (by decide) ?_
  refine am_callS (cvj := am_ci) (mtj := mX10_in) (dj := 0) (nj := 3) (rcj := 0) (rsj := 0) (rc' := 0) (rs' := 0) (st' := fun a9 => (am_I a9 :: [])) [am_I l2, am_I (0 : Int32), am_I (1 : Int32)] [] dX10_textTold_19 okX10_in lk_RX10_85 (fun zA zH zE => txX10_in l2 (0 : Int32) (1 : Int32) h2 zA zH zE) rfl (fun _ => rfl) (by decide) rfl (Nat.le_of_ble_eq_true rfl) (by decide) (by decide) (fun r3 h4 => ?_)
  refine am_if_ne (tgt := 28) dX10_textTold_22 (by decide) (fun c6 => ?_) (fun c6 => ?_)
  · refine am_iload_n dX10_textTold_28 rfl ?_
    refine am_if_ne (tgt := 50) dX10_textTold_29 (by decide) (fun c5 => ?_) (fun c5 => ?_)
    · refine am_aload_n dX10_textTold_50 rfl ?_
      refine am_getR dX10_textTold_51 fk_RX10_9 rfl ?_
      refine am_bipush (v := 76) dX10_textTold_54 (by decide) ?_
      refine am_iconst (v := 2) dX10_textTold_56 (by decide) ?_
      refine am_iload_n dX10_textTold_57 rfl ?_
      refine am_imul dX10_textTold_58 ?_
      refine am_iadd dX10_textTold_59 ?_
      refine am_iconst (v := 1) dX10_textTold_60 (by decide) ?_
      refine am_iadd dX10_textTold_61 ?_
      refine am_iald dX10_textTold_62 ?_
      exact am_iret dX10_textTold_63 rfl rfl
    refine am_aload_n dX10_textTold_32 rfl ?_
    refine am_getR dX10_textTold_33 fk_RX10_9 rfl ?_
    refine am_bipush (v := 76) dX10_textTold_36 (by decide) ?_
    refine am_iconst (v := 2) dX10_textTold_38 (by decide) ?_
    refine am_iload_n dX10_textTold_39 rfl ?_
    refine am_imul dX10_textTold_40 ?_
    refine am_iadd dX10_textTold_41 ?_
    refine am_iald dX10_textTold_42 ?_
    refine am_sipush (v := 1000) dX10_textTold_43 (by decide) ?_
    refine am_idiv dX10_textTold_46 ?_
    refine am_goto (tgt := 63) dX10_textTold_47 (by decide) ?_
    exact am_iret dX10_textTold_63 rfl rfl
  refine am_ldc (v := (-1000000001)) dX10_textTold_25 wd1060 ?_
  exact am_iret dX10_textTold_27 rfl rfl
theorem txX10_textTold {xs : List Int32} (l0 : Option Nat) (l1 : Int32) (l2 : Int32) (h : am_H) (a : Int32) (h2 : am_H) (e : fxX10_textTold l0 l1 l2 h = some (a, h2)) : am_Ct xs mX10_textTold 1 0 0 [am_R l0, am_I l1, am_I l2] h (fun v h3 => v = am_ci a ∧ h3 = h2) := am_meth okX10_textTold (Nat.le_of_ble_eq_true rfl) rfl (sxX10_textTold l0 l1 l2 h) e
theorem dX10_why_0 : am_at cX10_why 0 (.iload_n 1) 1 1 := by decide +kernel
theorem dX10_why_1 : am_at cX10_why 1 (.iconst 0) 1 2 := by decide +kernel
theorem dX10_why_2 : am_at cX10_why 2 (.iconst 2) 1 3 := by decide +kernel
theorem dX10_why_3 : am_at cX10_why 3 (.invokestatic 85) 3 6 := by decide +kernel
theorem dX10_why_6 : am_at cX10_why 6 (.ifCond .ne 6) 3 9 := by decide +kernel
theorem dX10_why_9 : am_at cX10_why 9 (.ldc 93) 2 11 := by decide +kernel
theorem dX10_why_11 : am_at cX10_why 11 (.ireturn) 1 12 := by decide +kernel
theorem dX10_why_12 : am_at cX10_why 12 (.aload_n 0) 1 13 := by decide +kernel
theorem dX10_why_13 : am_at cX10_why 13 (.iload_n 1) 1 14 := by decide +kernel
theorem dX10_why_14 : am_at cX10_why 14 (.invokevirtual 125) 3 17 := by decide +kernel
theorem dX10_why_17 : am_at cX10_why 17 (.istore_n 2) 1 18 := by decide +kernel
theorem dX10_why_18 : am_at cX10_why 18 (.iload_n 2) 1 19 := by decide +kernel
theorem dX10_why_19 : am_at cX10_why 19 (.ifCond .ge 8) 3 22 := by decide +kernel
theorem dX10_why_22 : am_at cX10_why 22 (.ldc 84) 2 24 := by decide +kernel
theorem dX10_why_24 : am_at cX10_why 24 (.goto 4) 3 27 := by decide +kernel
theorem dX10_why_27 : am_at cX10_why 27 (.iload_n 2) 1 28 := by decide +kernel
theorem dX10_why_28 : am_at cX10_why 28 (.ireturn) 1 29 := by decide +kernel
def fxX10_why (l0 : Option Nat) (l1 : Int32) (h : am_H) : Option (Int32 × am_H) := am_bd (fxX10_in l1 (0 : Int32) (2 : Int32) h) (fun r1 h2 => if r1 = 0 then (some ((-1000000001 : Int32), h2)) else (am_gd (am_ob h2 l0 10) (am_bd (fxX10_counts l0 l1 h2) (fun r3 h4 => am_lt r3 (fun x5 => if 0 ≤ x5 then (some (x5, h4)) else (some ((-1000000005 : Int32), h4)))))))
set_option maxRecDepth 100000 in
theorem sxX10_why {xs : List Int32} (l0 : Option Nat) (l1 : Int32) (h : am_H) : am_Sm xs am_ci mX10_why 1 0 0 0 [some (am_R l0), some (am_I l1), none] [] h (fxX10_why l0 l1 h) := by
  unfold fxX10_why
  refine am_iload_n dX10_why_0 rfl ?_
  refine am_iconst (v := 0) dX10_why_1 (by decide) ?_
  refine am_iconst (v := 2) dX10_why_2 (by decide) ?_
  refine am_callS (cvj := am_ci) (mtj := mX10_in) (dj := 0) (nj := 3) (rcj := 0) (rsj := 0) (rc' := 0) (rs' := 0) (st' := fun a9 => (am_I a9 :: [])) [am_I l1, am_I (0 : Int32), am_I (2 : Int32)] [] dX10_why_3 okX10_in lk_RX10_85 (fun zA zH zE => txX10_in l1 (0 : Int32) (2 : Int32) h zA zH zE) rfl (fun _ => rfl) (by decide) rfl (Nat.le_of_ble_eq_true rfl) (by decide) (by decide) (fun r1 h2 => ?_)
  refine am_if_ne (tgt := 12) dX10_why_6 (by decide) (fun c7 => ?_) (fun c7 => ?_)
  · refine am_aload_n dX10_why_12 rfl ?_
    refine am_iload_n dX10_why_13 rfl ?_
    refine am_callV (cvj := am_ci) (mtj := mX10_counts) (dj := 0) (nj := 1) (rcj := 0) (rsj := 0) (rc' := 0) (rs' := 0) (ci := 10) (st' := fun a9 => (am_I a9 :: [])) ⟨_, rfl, rfl⟩ [am_I l1] [] dX10_why_14 okX10_counts lk_RX10_125 (fun zA zH zE => txX10_counts l0 l1 h2 zA zH zE) rfl (fun _ => rfl) (by decide) rfl (Nat.le_of_ble_eq_true rfl) (by decide) (by decide) (fun r3 h4 => ?_)
    refine am_istore_n (LL := fun y9 => [some (am_R l0), some (am_I l1), some (am_I y9)]) dX10_why_17 (by decide) (fun _ => rfl) (fun x5 => ?_)
    refine am_iload_n dX10_why_18 rfl ?_
    refine am_if_ge (tgt := 27) dX10_why_19 (by decide) (fun c6 => ?_) (fun c6 => ?_)
    · refine am_iload_n dX10_why_27 rfl ?_
      exact am_iret dX10_why_28 rfl rfl
    refine am_ldc (v := (-1000000005)) dX10_why_22 wd1143 ?_
    refine am_goto (tgt := 28) dX10_why_24 (by decide) ?_
    exact am_iret dX10_why_28 rfl rfl
  refine am_ldc (v := (-1000000001)) dX10_why_9 wd1060 ?_
  exact am_iret dX10_why_11 rfl rfl
theorem txX10_why {xs : List Int32} (l0 : Option Nat) (l1 : Int32) (h : am_H) (a : Int32) (h2 : am_H) (e : fxX10_why l0 l1 h = some (a, h2)) : am_Ct xs mX10_why 1 0 0 [am_R l0, am_I l1] h (fun v h3 => v = am_ci a ∧ h3 = h2) := am_meth okX10_why (Nat.le_of_ble_eq_true rfl) rfl (sxX10_why l0 l1 h) e
theorem dX10_isSlot_0 : am_at cX10_isSlot 0 (.iload_n 0) 1 1 := by decide +kernel
theorem dX10_isSlot_1 : am_at cX10_isSlot 1 (.iconst 0) 1 2 := by decide +kernel
theorem dX10_isSlot_2 : am_at cX10_isSlot 2 (.iconst 4) 1 3 := by decide +kernel
theorem dX10_isSlot_3 : am_at cX10_isSlot 3 (.invokestatic 85) 3 6 := by decide +kernel
theorem dX10_isSlot_6 : am_at cX10_isSlot 6 (.ireturn) 1 7 := by decide +kernel
def fxX10_isSlot (l0 : Int32) (h : am_H) : Option (Int32 × am_H) := am_bd (fxX10_in l0 (0 : Int32) (4 : Int32) h) (fun r1 h2 => am_gd (am_bz r1) (some (r1, h2)))
set_option maxRecDepth 100000 in
theorem sxX10_isSlot {xs : List Int32} (l0 : Int32) (h : am_H) : am_Sm xs am_ci mX10_isSlot 1 0 0 0 [some (am_I l0)] [] h (fxX10_isSlot l0 h) := by
  unfold fxX10_isSlot
  refine am_iload_n dX10_isSlot_0 rfl ?_
  refine am_iconst (v := 0) dX10_isSlot_1 (by decide) ?_
  refine am_iconst (v := 4) dX10_isSlot_2 (by decide) ?_
  refine am_callS (cvj := am_ci) (mtj := mX10_in) (dj := 0) (nj := 3) (rcj := 0) (rsj := 0) (rc' := 0) (rs' := 0) (st' := fun a9 => (am_I a9 :: [])) [am_I l0, am_I (0 : Int32), am_I (4 : Int32)] [] dX10_isSlot_3 okX10_in lk_RX10_85 (fun zA zH zE => txX10_in l0 (0 : Int32) (4 : Int32) h zA zH zE) rfl (fun _ => rfl) (by decide) rfl (Nat.le_of_ble_eq_true rfl) (by decide) (by decide) (fun r1 h2 => ?_)
  exact am_zret dX10_isSlot_6 rfl rfl
theorem txX10_isSlot {xs : List Int32} (l0 : Int32) (h : am_H) (a : Int32) (h2 : am_H) (e : fxX10_isSlot l0 h = some (a, h2)) : am_Ct xs mX10_isSlot 1 0 0 [am_I l0] h (fun v h3 => v = am_ci a ∧ h3 = h2) := am_meth okX10_isSlot (Nat.le_of_ble_eq_true rfl) rfl (sxX10_isSlot l0 h) e
theorem dX10_sheet_0 : am_at cX10_sheet 0 (.iload_n 1) 1 1 := by decide +kernel
theorem dX10_sheet_1 : am_at cX10_sheet 1 (.invokestatic 167) 3 4 := by decide +kernel
theorem dX10_sheet_4 : am_at cX10_sheet 4 (.ifCond .eq 22) 3 7 := by decide +kernel
theorem dX10_sheet_7 : am_at cX10_sheet 7 (.iload_n 2) 1 8 := by decide +kernel
theorem dX10_sheet_8 : am_at cX10_sheet 8 (.iconst (-1)) 1 9 := by decide +kernel
theorem dX10_sheet_9 : am_at cX10_sheet 9 (.iconst 1) 1 10 := by decide +kernel
theorem dX10_sheet_10 : am_at cX10_sheet 10 (.invokestatic 85) 3 13 := by decide +kernel
theorem dX10_sheet_13 : am_at cX10_sheet 13 (.ifCond .eq 13) 3 16 := by decide +kernel
theorem dX10_sheet_16 : am_at cX10_sheet 16 (.iload_n 2) 1 17 := by decide +kernel
theorem dX10_sheet_17 : am_at cX10_sheet 17 (.ifCond .lt 12) 3 20 := by decide +kernel
theorem dX10_sheet_20 : am_at cX10_sheet 20 (.iload_n 3) 1 21 := by decide +kernel
theorem dX10_sheet_21 : am_at cX10_sheet 21 (.bipush 24) 2 23 := by decide +kernel
theorem dX10_sheet_23 : am_at cX10_sheet 23 (.if_icmp .le 6) 3 26 := by decide +kernel
theorem dX10_sheet_26 : am_at cX10_sheet 26 (.ldc 93) 2 28 := by decide +kernel
theorem dX10_sheet_28 : am_at cX10_sheet 28 (.ireturn) 1 29 := by decide +kernel
theorem dX10_sheet_29 : am_at cX10_sheet 29 (.iload_n 2) 1 30 := by decide +kernel
theorem dX10_sheet_30 : am_at cX10_sheet 30 (.ifCond .lt 11) 3 33 := by decide +kernel
theorem dX10_sheet_33 : am_at cX10_sheet 33 (.iload_n 3) 1 34 := by decide +kernel
theorem dX10_sheet_34 : am_at cX10_sheet 34 (.ifCond .ge 7) 3 37 := by decide +kernel
theorem dX10_sheet_37 : am_at cX10_sheet 37 (.ldc_w 282) 3 40 := by decide +kernel
theorem dX10_sheet_40 : am_at cX10_sheet 40 (.ireturn) 1 41 := by decide +kernel
theorem dX10_sheet_41 : am_at cX10_sheet 41 (.aload_n 0) 1 42 := by decide +kernel
theorem dX10_sheet_42 : am_at cX10_sheet 42 (.getfield 57) 3 45 := by decide +kernel
theorem dX10_sheet_45 : am_at cX10_sheet 45 (.iload_n 1) 1 46 := by decide +kernel
theorem dX10_sheet_46 : am_at cX10_sheet 46 (.iload_n 2) 1 47 := by decide +kernel
theorem dX10_sheet_47 : am_at cX10_sheet 47 (.iastore) 1 48 := by decide +kernel
theorem dX10_sheet_48 : am_at cX10_sheet 48 (.aload_n 0) 1 49 := by decide +kernel
theorem dX10_sheet_49 : am_at cX10_sheet 49 (.getfield 60) 3 52 := by decide +kernel
theorem dX10_sheet_52 : am_at cX10_sheet 52 (.iload_n 1) 1 53 := by decide +kernel
theorem dX10_sheet_53 : am_at cX10_sheet 53 (.iload_n 2) 1 54 := by decide +kernel
theorem dX10_sheet_54 : am_at cX10_sheet 54 (.ifCond .ge 7) 3 57 := by decide +kernel
theorem dX10_sheet_57 : am_at cX10_sheet 57 (.iconst 0) 1 58 := by decide +kernel
theorem dX10_sheet_58 : am_at cX10_sheet 58 (.goto 4) 3 61 := by decide +kernel
theorem dX10_sheet_61 : am_at cX10_sheet 61 (.iload_n 3) 1 62 := by decide +kernel
theorem dX10_sheet_62 : am_at cX10_sheet 62 (.iastore) 1 63 := by decide +kernel
theorem dX10_sheet_63 : am_at cX10_sheet 63 (.iconst 0) 1 64 := by decide +kernel
theorem dX10_sheet_64 : am_at cX10_sheet 64 (.istore 4) 2 66 := by decide +kernel
theorem dX10_sheet_66 : am_at cX10_sheet 66 (.iload 4) 2 68 := by decide +kernel
theorem dX10_sheet_68 : am_at cX10_sheet 68 (.bipush 24) 2 70 := by decide +kernel
theorem dX10_sheet_70 : am_at cX10_sheet 70 (.if_icmp .ge 22) 3 73 := by decide +kernel
theorem dX10_sheet_73 : am_at cX10_sheet 73 (.aload_n 0) 1 74 := by decide +kernel
theorem dX10_sheet_74 : am_at cX10_sheet 74 (.getfield 63) 3 77 := by decide +kernel
theorem dX10_sheet_77 : am_at cX10_sheet 77 (.bipush 24) 2 79 := by decide +kernel
theorem dX10_sheet_79 : am_at cX10_sheet 79 (.iload_n 1) 1 80 := by decide +kernel
theorem dX10_sheet_80 : am_at cX10_sheet 80 (.imul) 1 81 := by decide +kernel
theorem dX10_sheet_81 : am_at cX10_sheet 81 (.iload 4) 2 83 := by decide +kernel
theorem dX10_sheet_83 : am_at cX10_sheet 83 (.iadd) 1 84 := by decide +kernel
theorem dX10_sheet_84 : am_at cX10_sheet 84 (.iconst 0) 1 85 := by decide +kernel
theorem dX10_sheet_85 : am_at cX10_sheet 85 (.iastore) 1 86 := by decide +kernel
theorem dX10_sheet_86 : am_at cX10_sheet 86 (.iinc 4 1) 3 89 := by decide +kernel
theorem dX10_sheet_89 : am_at cX10_sheet 89 (.goto (-23)) 3 92 := by decide +kernel
theorem dX10_sheet_92 : am_at cX10_sheet 92 (.aload_n 0) 1 93 := by decide +kernel
theorem dX10_sheet_93 : am_at cX10_sheet 93 (.getfield 60) 3 96 := by decide +kernel
theorem dX10_sheet_96 : am_at cX10_sheet 96 (.iload_n 1) 1 97 := by decide +kernel
theorem dX10_sheet_97 : am_at cX10_sheet 97 (.iaload) 1 98 := by decide +kernel
theorem dX10_sheet_98 : am_at cX10_sheet 98 (.ireturn) 1 99 := by decide +kernel
def fxX10_sheet_b66 : Nat → Option Nat → Int32 → Int32 → am_H → Option (Int32 × am_H)
  | 0, _, _, _, _ => none
  | n + 1, l0, l1, l4, h => if (24 : Int32) ≤ l4 then (am_gd (am_ob h l0 10) (am_gd (am_ix h (am_gr h l0 27) 0 l1) (some ((am_gi h (am_gr h l0 27) l1.toNatClampNeg), h)))) else (am_gd (am_ob h l0 10) (am_gd (am_ix h (am_gr h l0 28) 0 (((24 : Int32) * l1) + l4)) (am_lt (am_si h (am_gr h l0 28) (((24 : Int32) * l1) + l4).toNatClampNeg (0 : Int32)) (fun h15 => am_lt (l4 + 1) (fun x16 => fxX10_sheet_b66 n l0 l1 x16 h15)))))
set_option maxRecDepth 100000 in
theorem sxX10_sheet_b66 {xs : List Int32} : ∀ (n : Nat) (l0 : Option Nat) (l1 : Int32) (l4 : Int32) (h : am_H), am_Sm xs am_ci mX10_sheet 2 0 0 66 [some (am_R l0), some (am_I l1), none, none, some (am_I l4)] [] h (fxX10_sheet_b66 n l0 l1 l4 h) := by
  intro n
  induction n with
  | zero => intros; exact am_none
  | succ n ih =>
    intro l0 l1 l4 h
    rw [fxX10_sheet_b66]
    refine am_iload dX10_sheet_66 rfl ?_
    refine am_bipush (v := 24) dX10_sheet_68 (by decide) ?_
    refine am_icmp_ge (tgt := 92) dX10_sheet_70 (by decide) (fun c17 => ?_) (fun c17 => ?_)
    · refine am_aload_n dX10_sheet_92 rfl ?_
      refine am_getR dX10_sheet_93 fk_RX10_60 rfl ?_
      refine am_iload_n dX10_sheet_96 rfl ?_
      refine am_iald dX10_sheet_97 ?_
      exact am_iret dX10_sheet_98 rfl rfl
    refine am_aload_n dX10_sheet_73 rfl ?_
    refine am_getR dX10_sheet_74 fk_RX10_63 rfl ?_
    refine am_bipush (v := 24) dX10_sheet_77 (by decide) ?_
    refine am_iload_n dX10_sheet_79 rfl ?_
    refine am_imul dX10_sheet_80 ?_
    refine am_iload dX10_sheet_81 rfl ?_
    refine am_iadd dX10_sheet_83 ?_
    refine am_iconst (v := 0) dX10_sheet_84 (by decide) ?_
    refine am_iast dX10_sheet_85 (fun h15 => ?_)
    refine am_iinc (v := 1) (LL := fun y9 => [some (am_R l0), some (am_I l1), none, none, some (am_I y9)]) dX10_sheet_86 (by decide) rfl (by decide) (fun _ => rfl) (fun x16 => ?_)
    refine am_goto (tgt := 66) dX10_sheet_89 (by decide) ?_
    exact am_weak (ih l0 l1 x16 h15) ⟨rfl, ⟨rfl, ⟨rfl, trivial⟩⟩⟩ (Nat.le_refl _) (Nat.le_refl _)
def fxX10_sheet_b62 (l0 : Option Nat) (l1 : Int32) (s0 : Int32) (s1 : Int32) (s2 : Option Nat) (h : am_H) : Option (Int32 × am_H) := am_gd (am_ix h s2 0 s1) (am_lt (am_si h s2 s1.toNatClampNeg s0) (fun h13 => am_lt (0 : Int32) (fun x14 => fxX10_sheet_b66 am_F l0 l1 x14 h13)))
set_option maxRecDepth 100000 in
theorem sxX10_sheet_b62 {xs : List Int32} (l0 : Option Nat) (l1 : Int32) (s0 : Int32) (s1 : Int32) (s2 : Option Nat) (h : am_H) : am_Sm xs am_ci mX10_sheet 2 0 0 62 [some (am_R l0), some (am_I l1), none, none, none] [am_I s0, am_I s1, am_R s2] h (fxX10_sheet_b62 l0 l1 s0 s1 s2 h) := by
  unfold fxX10_sheet_b62
  refine am_iast dX10_sheet_62 (fun h13 => ?_)
  refine am_iconst (v := 0) dX10_sheet_63 (by decide) ?_
  refine am_istore (LL := fun y9 => [some (am_R l0), some (am_I l1), none, none, some (am_I y9)]) dX10_sheet_64 (by decide) (fun _ => rfl) (fun x14 => ?_)
  exact am_weak (sxX10_sheet_b66 am_F l0 l1 x14 h13) ⟨rfl, ⟨rfl, ⟨rfl, trivial⟩⟩⟩ (Nat.le_refl _) (Nat.le_refl _)
def fxX10_sheet_b41 (l0 : Option Nat) (l1 : Int32) (l2 : Int32) (l3 : Int32) (h : am_H) : Option (Int32 × am_H) := am_gd (am_ob h l0 10) (am_gd (am_ix h (am_gr h l0 26) 0 l1) (am_lt (am_si h (am_gr h l0 26) l1.toNatClampNeg l2) (fun h11 => am_gd (am_ob h11 l0 10) (if 0 ≤ l2 then (fxX10_sheet_b62 l0 l1 l3 l1 (am_gr h11 l0 27) h11) else (fxX10_sheet_b62 l0 l1 (0 : Int32) l1 (am_gr h11 l0 27) h11)))))
set_option maxRecDepth 100000 in
theorem sxX10_sheet_b41 {xs : List Int32} (l0 : Option Nat) (l1 : Int32) (l2 : Int32) (l3 : Int32) (h : am_H) : am_Sm xs am_ci mX10_sheet 2 0 0 41 [some (am_R l0), some (am_I l1), some (am_I l2), some (am_I l3), none] [] h (fxX10_sheet_b41 l0 l1 l2 l3 h) := by
  unfold fxX10_sheet_b41
  refine am_aload_n dX10_sheet_41 rfl ?_
  refine am_getR dX10_sheet_42 fk_RX10_57 rfl ?_
  refine am_iload_n dX10_sheet_45 rfl ?_
  refine am_iload_n dX10_sheet_46 rfl ?_
  refine am_iast dX10_sheet_47 (fun h11 => ?_)
  refine am_aload_n dX10_sheet_48 rfl ?_
  refine am_getR dX10_sheet_49 fk_RX10_60 rfl ?_
  refine am_iload_n dX10_sheet_52 rfl ?_
  refine am_iload_n dX10_sheet_53 rfl ?_
  refine am_if_ge (tgt := 61) dX10_sheet_54 (by decide) (fun c12 => ?_) (fun c12 => ?_)
  · refine am_iload_n dX10_sheet_61 rfl ?_
    exact am_weak (sxX10_sheet_b62 l0 l1 l3 l1 (am_gr h11 l0 27) h11) ⟨rfl, ⟨rfl, trivial⟩⟩ (Nat.le_refl _) (Nat.le_refl _)
  refine am_iconst (v := 0) dX10_sheet_57 (by decide) ?_
  refine am_goto (tgt := 62) dX10_sheet_58 (by decide) ?_
  exact am_weak (sxX10_sheet_b62 l0 l1 (0 : Int32) l1 (am_gr h11 l0 27) h11) ⟨rfl, ⟨rfl, trivial⟩⟩ (Nat.le_refl _) (Nat.le_refl _)
def fxX10_sheet_b29 (l0 : Option Nat) (l1 : Int32) (l2 : Int32) (l3 : Int32) (h : am_H) : Option (Int32 × am_H) := if l2 < 0 then (fxX10_sheet_b41 l0 l1 l2 l3 h) else (if 0 ≤ l3 then (fxX10_sheet_b41 l0 l1 l2 l3 h) else (some ((-1000000014 : Int32), h)))
set_option maxRecDepth 100000 in
theorem sxX10_sheet_b29 {xs : List Int32} (l0 : Option Nat) (l1 : Int32) (l2 : Int32) (l3 : Int32) (h : am_H) : am_Sm xs am_ci mX10_sheet 2 0 0 29 [some (am_R l0), some (am_I l1), some (am_I l2), some (am_I l3), none] [] h (fxX10_sheet_b29 l0 l1 l2 l3 h) := by
  unfold fxX10_sheet_b29
  refine am_iload_n dX10_sheet_29 rfl ?_
  refine am_if_lt (tgt := 41) dX10_sheet_30 (by decide) (fun c10 => ?_) (fun c10 => ?_)
  · exact am_weak (sxX10_sheet_b41 l0 l1 l2 l3 h) ⟨rfl, ⟨rfl, ⟨rfl, ⟨rfl, trivial⟩⟩⟩⟩ (Nat.le_refl _) (Nat.le_refl _)
  refine am_iload_n dX10_sheet_33 rfl ?_
  refine am_if_ge (tgt := 41) dX10_sheet_34 (by decide) (fun c9 => ?_) (fun c9 => ?_)
  · exact am_weak (sxX10_sheet_b41 l0 l1 l2 l3 h) ⟨rfl, ⟨rfl, ⟨rfl, ⟨rfl, trivial⟩⟩⟩⟩ (Nat.le_refl _) (Nat.le_refl _)
  refine am_ldcw (v := (-1000000014)) dX10_sheet_37 wd1362 ?_
  exact am_iret dX10_sheet_40 rfl rfl
def fxX10_sheet (l0 : Option Nat) (l1 : Int32) (l2 : Int32) (l3 : Int32) (h : am_H) : Option (Int32 × am_H) := am_bd (fxX10_isSheet l1 h) (fun r1 h2 => if r1 = 0 then (some ((-1000000001 : Int32), h2)) else (am_bd (fxX10_in l2 (-1 : Int32) (1 : Int32) h2) (fun r3 h4 => if r3 = 0 then (some ((-1000000001 : Int32), h4)) else (if l2 < 0 then (fxX10_sheet_b29 l0 l1 l2 l3 h4) else (if l3 ≤ (24 : Int32) then (fxX10_sheet_b29 l0 l1 l2 l3 h4) else (some ((-1000000001 : Int32), h4)))))))
set_option maxRecDepth 100000 in
theorem sxX10_sheet {xs : List Int32} (l0 : Option Nat) (l1 : Int32) (l2 : Int32) (l3 : Int32) (h : am_H) : am_Sm xs am_ci mX10_sheet 2 0 0 0 [some (am_R l0), some (am_I l1), some (am_I l2), some (am_I l3), none] [] h (fxX10_sheet l0 l1 l2 l3 h) := by
  unfold fxX10_sheet
  refine am_iload_n dX10_sheet_0 rfl ?_
  refine am_callS (cvj := am_ci) (mtj := mX10_isSheet) (dj := 1) (nj := 1) (rcj := 0) (rsj := 0) (rc' := 0) (rs' := 0) (st' := fun a9 => (am_I a9 :: [])) [am_I l1] [] dX10_sheet_1 okX10_isSheet lk_RX10_167 (fun zA zH zE => txX10_isSheet l1 h zA zH zE) rfl (fun _ => rfl) (by decide) rfl (Nat.le_of_ble_eq_true rfl) (by decide) (by decide) (fun r1 h2 => ?_)
  refine am_if_eq (tgt := 26) dX10_sheet_4 (by decide) (fun c8 => ?_) (fun c8 => ?_)
  · refine am_ldc (v := (-1000000001)) dX10_sheet_26 wd1060 ?_
    exact am_iret dX10_sheet_28 rfl rfl
  refine am_iload_n dX10_sheet_7 rfl ?_
  refine am_iconst (v := (-1)) dX10_sheet_8 (by decide) ?_
  refine am_iconst (v := 1) dX10_sheet_9 (by decide) ?_
  refine am_callS (cvj := am_ci) (mtj := mX10_in) (dj := 0) (nj := 3) (rcj := 0) (rsj := 0) (rc' := 0) (rs' := 0) (st' := fun a9 => (am_I a9 :: [])) [am_I l2, am_I (-1 : Int32), am_I (1 : Int32)] [] dX10_sheet_10 okX10_in lk_RX10_85 (fun zA zH zE => txX10_in l2 (-1 : Int32) (1 : Int32) h2 zA zH zE) rfl (fun _ => rfl) (by decide) rfl (Nat.le_of_ble_eq_true rfl) (by decide) (by decide) (fun r3 h4 => ?_)
  refine am_if_eq (tgt := 26) dX10_sheet_13 (by decide) (fun c7 => ?_) (fun c7 => ?_)
  · refine am_ldc (v := (-1000000001)) dX10_sheet_26 wd1060 ?_
    exact am_iret dX10_sheet_28 rfl rfl
  refine am_iload_n dX10_sheet_16 rfl ?_
  refine am_if_lt (tgt := 29) dX10_sheet_17 (by decide) (fun c6 => ?_) (fun c6 => ?_)
  · exact am_weak (sxX10_sheet_b29 l0 l1 l2 l3 h4) ⟨rfl, ⟨rfl, ⟨rfl, ⟨rfl, trivial⟩⟩⟩⟩ (Nat.le_refl _) (Nat.le_refl _)
  refine am_iload_n dX10_sheet_20 rfl ?_
  refine am_bipush (v := 24) dX10_sheet_21 (by decide) ?_
  refine am_icmp_le (tgt := 29) dX10_sheet_23 (by decide) (fun c5 => ?_) (fun c5 => ?_)
  · exact am_weak (sxX10_sheet_b29 l0 l1 l2 l3 h4) ⟨rfl, ⟨rfl, ⟨rfl, ⟨rfl, trivial⟩⟩⟩⟩ (Nat.le_refl _) (Nat.le_refl _)
  refine am_ldc (v := (-1000000001)) dX10_sheet_26 wd1060 ?_
  exact am_iret dX10_sheet_28 rfl rfl
theorem txX10_sheet {xs : List Int32} (l0 : Option Nat) (l1 : Int32) (l2 : Int32) (l3 : Int32) (h : am_H) (a : Int32) (h2 : am_H) (e : fxX10_sheet l0 l1 l2 l3 h = some (a, h2)) : am_Ct xs mX10_sheet 2 0 0 [am_R l0, am_I l1, am_I l2, am_I l3] h (fun v h3 => v = am_ci a ∧ h3 = h2) := am_meth okX10_sheet (Nat.le_of_ble_eq_true rfl) rfl (sxX10_sheet l0 l1 l2 l3 h) e
theorem dX10_mark_0 : am_at cX10_mark 0 (.iload_n 1) 1 1 := by decide +kernel
theorem dX10_mark_1 : am_at cX10_mark 1 (.invokestatic 167) 3 4 := by decide +kernel
theorem dX10_mark_4 : am_at cX10_mark 4 (.ifCond .ne 6) 3 7 := by decide +kernel
theorem dX10_mark_7 : am_at cX10_mark 7 (.ldc 93) 2 9 := by decide +kernel
theorem dX10_mark_9 : am_at cX10_mark 9 (.ireturn) 1 10 := by decide +kernel
theorem dX10_mark_10 : am_at cX10_mark 10 (.aload_n 0) 1 11 := by decide +kernel
theorem dX10_mark_11 : am_at cX10_mark 11 (.getfield 57) 3 14 := by decide +kernel
theorem dX10_mark_14 : am_at cX10_mark 14 (.iload_n 1) 1 15 := by decide +kernel
theorem dX10_mark_15 : am_at cX10_mark 15 (.iaload) 1 16 := by decide +kernel
theorem dX10_mark_16 : am_at cX10_mark 16 (.ifCond .ge 6) 3 19 := by decide +kernel
theorem dX10_mark_19 : am_at cX10_mark 19 (.ldc 170) 2 21 := by decide +kernel
theorem dX10_mark_21 : am_at cX10_mark 21 (.ireturn) 1 22 := by decide +kernel
theorem dX10_mark_22 : am_at cX10_mark 22 (.iload_n 2) 1 23 := by decide +kernel
theorem dX10_mark_23 : am_at cX10_mark 23 (.iconst 0) 1 24 := by decide +kernel
theorem dX10_mark_24 : am_at cX10_mark 24 (.aload_n 0) 1 25 := by decide +kernel
theorem dX10_mark_25 : am_at cX10_mark 25 (.getfield 60) 3 28 := by decide +kernel
theorem dX10_mark_28 : am_at cX10_mark 28 (.iload_n 1) 1 29 := by decide +kernel
theorem dX10_mark_29 : am_at cX10_mark 29 (.iaload) 1 30 := by decide +kernel
theorem dX10_mark_30 : am_at cX10_mark 30 (.iconst 1) 1 31 := by decide +kernel
theorem dX10_mark_31 : am_at cX10_mark 31 (.isub) 1 32 := by decide +kernel
theorem dX10_mark_32 : am_at cX10_mark 32 (.invokestatic 85) 3 35 := by decide +kernel
theorem dX10_mark_35 : am_at cX10_mark 35 (.ifCond .ne 7) 3 38 := by decide +kernel
theorem dX10_mark_38 : am_at cX10_mark 38 (.ldc_w 283) 3 41 := by decide +kernel
theorem dX10_mark_41 : am_at cX10_mark 41 (.ireturn) 1 42 := by decide +kernel
theorem dX10_mark_42 : am_at cX10_mark 42 (.aload_n 0) 1 43 := by decide +kernel
theorem dX10_mark_43 : am_at cX10_mark 43 (.getfield 57) 3 46 := by decide +kernel
theorem dX10_mark_46 : am_at cX10_mark 46 (.iload_n 1) 1 47 := by decide +kernel
theorem dX10_mark_47 : am_at cX10_mark 47 (.iaload) 1 48 := by decide +kernel
theorem dX10_mark_48 : am_at cX10_mark 48 (.ifCond .ne 12) 3 51 := by decide +kernel
theorem dX10_mark_51 : am_at cX10_mark 51 (.iload_n 3) 1 52 := by decide +kernel
theorem dX10_mark_52 : am_at cX10_mark 52 (.ldc 84) 2 54 := by decide +kernel
theorem dX10_mark_54 : am_at cX10_mark 54 (.if_icmp .ne 6) 3 57 := by decide +kernel
theorem dX10_mark_57 : am_at cX10_mark 57 (.ldc 115) 2 59 := by decide +kernel
theorem dX10_mark_59 : am_at cX10_mark 59 (.ireturn) 1 60 := by decide +kernel
theorem dX10_mark_60 : am_at cX10_mark 60 (.aload_n 0) 1 61 := by decide +kernel
theorem dX10_mark_61 : am_at cX10_mark 61 (.getfield 57) 3 64 := by decide +kernel
theorem dX10_mark_64 : am_at cX10_mark 64 (.iload_n 1) 1 65 := by decide +kernel
theorem dX10_mark_65 : am_at cX10_mark 65 (.iaload) 1 66 := by decide +kernel
theorem dX10_mark_66 : am_at cX10_mark 66 (.iconst 1) 1 67 := by decide +kernel
theorem dX10_mark_67 : am_at cX10_mark 67 (.if_icmp .ne 25) 3 70 := by decide +kernel
theorem dX10_mark_70 : am_at cX10_mark 70 (.iload_n 3) 1 71 := by decide +kernel
theorem dX10_mark_71 : am_at cX10_mark 71 (.ldc 84) 2 73 := by decide +kernel
theorem dX10_mark_73 : am_at cX10_mark 73 (.if_icmp .eq 19) 3 76 := by decide +kernel
theorem dX10_mark_76 : am_at cX10_mark 76 (.iload_n 3) 1 77 := by decide +kernel
theorem dX10_mark_77 : am_at cX10_mark 77 (.ldc_w 284) 3 80 := by decide +kernel
theorem dX10_mark_80 : am_at cX10_mark 80 (.ldc_w 285) 3 83 := by decide +kernel
theorem dX10_mark_83 : am_at cX10_mark 83 (.invokestatic 85) 3 86 := by decide +kernel
theorem dX10_mark_86 : am_at cX10_mark 86 (.ifCond .ne 6) 3 89 := by decide +kernel
theorem dX10_mark_89 : am_at cX10_mark 89 (.ldc 93) 2 91 := by decide +kernel
theorem dX10_mark_91 : am_at cX10_mark 91 (.ireturn) 1 92 := by decide +kernel
theorem dX10_mark_92 : am_at cX10_mark 92 (.aload_n 0) 1 93 := by decide +kernel
theorem dX10_mark_93 : am_at cX10_mark 93 (.getfield 63) 3 96 := by decide +kernel
theorem dX10_mark_96 : am_at cX10_mark 96 (.bipush 24) 2 98 := by decide +kernel
theorem dX10_mark_98 : am_at cX10_mark 98 (.iload_n 1) 1 99 := by decide +kernel
theorem dX10_mark_99 : am_at cX10_mark 99 (.imul) 1 100 := by decide +kernel
theorem dX10_mark_100 : am_at cX10_mark 100 (.iload_n 2) 1 101 := by decide +kernel
theorem dX10_mark_101 : am_at cX10_mark 101 (.iadd) 1 102 := by decide +kernel
theorem dX10_mark_102 : am_at cX10_mark 102 (.aload_n 0) 1 103 := by decide +kernel
theorem dX10_mark_103 : am_at cX10_mark 103 (.getfield 57) 3 106 := by decide +kernel
theorem dX10_mark_106 : am_at cX10_mark 106 (.iload_n 1) 1 107 := by decide +kernel
theorem dX10_mark_107 : am_at cX10_mark 107 (.iaload) 1 108 := by decide +kernel
theorem dX10_mark_108 : am_at cX10_mark 108 (.ifCond .ne 8) 3 111 := by decide +kernel
theorem dX10_mark_111 : am_at cX10_mark 111 (.iload_n 3) 1 112 := by decide +kernel
theorem dX10_mark_112 : am_at cX10_mark 112 (.i2s) 1 113 := by decide +kernel
theorem dX10_mark_113 : am_at cX10_mark 113 (.goto 4) 3 116 := by decide +kernel
theorem dX10_mark_116 : am_at cX10_mark 116 (.iload_n 3) 1 117 := by decide +kernel
theorem dX10_mark_117 : am_at cX10_mark 117 (.iastore) 1 118 := by decide +kernel
theorem dX10_mark_118 : am_at cX10_mark 118 (.iconst 1) 1 119 := by decide +kernel
theorem dX10_mark_119 : am_at cX10_mark 119 (.ireturn) 1 120 := by decide +kernel
def fxX10_mark_b117 (s0 : Int32) (s1 : Int32) (s2 : Option Nat) (h : am_H) : Option (Int32 × am_H) := am_gd (am_ix h s2 0 s1) (am_lt (am_si h s2 s1.toNatClampNeg s0) (fun h16 => some ((1 : Int32), h16)))
set_option maxRecDepth 100000 in
theorem sxX10_mark_b117 {xs : List Int32} (s0 : Int32) (s1 : Int32) (s2 : Option Nat) (h : am_H) : am_Sm xs am_ci mX10_mark 2 0 0 117 [none, none, none, none] [am_I s0, am_I s1, am_R s2] h (fxX10_mark_b117 s0 s1 s2 h) := by
  unfold fxX10_mark_b117
  refine am_iast dX10_mark_117 (fun h16 => ?_)
  refine am_iconst (v := 1) dX10_mark_118 (by decide) ?_
  exact am_iret dX10_mark_119 rfl rfl
def fxX10_mark_b92 (l0 : Option Nat) (l1 : Int32) (l2 : Int32) (l3 : Int32) (h : am_H) : Option (Int32 × am_H) := am_gd (am_ob h l0 10) (am_gd (am_ob h l0 10) (am_gd (am_ix h (am_gr h l0 26) 0 l1) (if (am_gi h (am_gr h l0 26) l1.toNatClampNeg) = 0 then (fxX10_mark_b117 (l3.toInt16.toInt32) (((24 : Int32) * l1) + l2) (am_gr h l0 28) h) else (fxX10_mark_b117 l3 (((24 : Int32) * l1) + l2) (am_gr h l0 28) h))))
set_option maxRecDepth 100000 in
theorem sxX10_mark_b92 {xs : List Int32} (l0 : Option Nat) (l1 : Int32) (l2 : Int32) (l3 : Int32) (h : am_H) : am_Sm xs am_ci mX10_mark 2 0 0 92 [some (am_R l0), some (am_I l1), some (am_I l2), some (am_I l3)] [] h (fxX10_mark_b92 l0 l1 l2 l3 h) := by
  unfold fxX10_mark_b92
  refine am_aload_n dX10_mark_92 rfl ?_
  refine am_getR dX10_mark_93 fk_RX10_63 rfl ?_
  refine am_bipush (v := 24) dX10_mark_96 (by decide) ?_
  refine am_iload_n dX10_mark_98 rfl ?_
  refine am_imul dX10_mark_99 ?_
  refine am_iload_n dX10_mark_100 rfl ?_
  refine am_iadd dX10_mark_101 ?_
  refine am_aload_n dX10_mark_102 rfl ?_
  refine am_getR dX10_mark_103 fk_RX10_57 rfl ?_
  refine am_iload_n dX10_mark_106 rfl ?_
  refine am_iald dX10_mark_107 ?_
  refine am_if_ne (tgt := 116) dX10_mark_108 (by decide) (fun c15 => ?_) (fun c15 => ?_)
  · refine am_iload_n dX10_mark_116 rfl ?_
    exact am_weak (sxX10_mark_b117 l3 (((24 : Int32) * l1) + l2) (am_gr h l0 28) h) trivial (Nat.le_refl _) (Nat.le_refl _)
  refine am_iload_n dX10_mark_111 rfl ?_
  refine am_i2s dX10_mark_112 ?_
  refine am_goto (tgt := 117) dX10_mark_113 (by decide) ?_
  exact am_weak (sxX10_mark_b117 (l3.toInt16.toInt32) (((24 : Int32) * l1) + l2) (am_gr h l0 28) h) trivial (Nat.le_refl _) (Nat.le_refl _)
def fxX10_mark_b60 (l0 : Option Nat) (l1 : Int32) (l2 : Int32) (l3 : Int32) (h : am_H) : Option (Int32 × am_H) := am_gd (am_ob h l0 10) (am_gd (am_ix h (am_gr h l0 26) 0 l1) (if (am_gi h (am_gr h l0 26) l1.toNatClampNeg) = (1 : Int32) then (if l3 = (-1000000005 : Int32) then (fxX10_mark_b92 l0 l1 l2 l3 h) else (am_bd (fxX10_in l3 (-99999 : Int32) (99999 : Int32) h) (fun r10 h11 => if r10 = 0 then (some ((-1000000001 : Int32), h11)) else (fxX10_mark_b92 l0 l1 l2 l3 h11)))) else (fxX10_mark_b92 l0 l1 l2 l3 h)))
set_option maxRecDepth 100000 in
theorem sxX10_mark_b60 {xs : List Int32} (l0 : Option Nat) (l1 : Int32) (l2 : Int32) (l3 : Int32) (h : am_H) : am_Sm xs am_ci mX10_mark 2 0 0 60 [some (am_R l0), some (am_I l1), some (am_I l2), some (am_I l3)] [] h (fxX10_mark_b60 l0 l1 l2 l3 h) := by
  unfold fxX10_mark_b60
  refine am_aload_n dX10_mark_60 rfl ?_
  refine am_getR dX10_mark_61 fk_RX10_57 rfl ?_
  refine am_iload_n dX10_mark_64 rfl ?_
  refine am_iald dX10_mark_65 ?_
  refine am_iconst (v := 1) dX10_mark_66 (by decide) ?_
  refine am_icmp_ne (tgt := 92) dX10_mark_67 (by decide) (fun c14 => ?_) (fun c14 => ?_)
  · exact am_weak (sxX10_mark_b92 l0 l1 l2 l3 h) ⟨rfl, ⟨rfl, ⟨rfl, ⟨rfl, trivial⟩⟩⟩⟩ (Nat.le_refl _) (Nat.le_refl _)
  refine am_iload_n dX10_mark_70 rfl ?_
  refine am_ldc (v := (-1000000005)) dX10_mark_71 wd1143 ?_
  refine am_icmp_eq (tgt := 92) dX10_mark_73 (by decide) (fun c13 => ?_) (fun c13 => ?_)
  · exact am_weak (sxX10_mark_b92 l0 l1 l2 l3 h) ⟨rfl, ⟨rfl, ⟨rfl, ⟨rfl, trivial⟩⟩⟩⟩ (Nat.le_refl _) (Nat.le_refl _)
  refine am_iload_n dX10_mark_76 rfl ?_
  refine am_ldcw (v := (-99999)) dX10_mark_77 wd1368 ?_
  refine am_ldcw (v := 99999) dX10_mark_80 wd1369 ?_
  refine am_callS (cvj := am_ci) (mtj := mX10_in) (dj := 0) (nj := 3) (rcj := 0) (rsj := 0) (rc' := 0) (rs' := 0) (st' := fun a9 => (am_I a9 :: [])) [am_I l3, am_I (-99999 : Int32), am_I (99999 : Int32)] [] dX10_mark_83 okX10_in lk_RX10_85 (fun zA zH zE => txX10_in l3 (-99999 : Int32) (99999 : Int32) h zA zH zE) rfl (fun _ => rfl) (by decide) rfl (Nat.le_of_ble_eq_true rfl) (by decide) (by decide) (fun r10 h11 => ?_)
  refine am_if_ne (tgt := 92) dX10_mark_86 (by decide) (fun c12 => ?_) (fun c12 => ?_)
  · exact am_weak (sxX10_mark_b92 l0 l1 l2 l3 h11) ⟨rfl, ⟨rfl, ⟨rfl, ⟨rfl, trivial⟩⟩⟩⟩ (Nat.le_refl _) (Nat.le_refl _)
  refine am_ldc (v := (-1000000001)) dX10_mark_89 wd1060 ?_
  exact am_iret dX10_mark_91 rfl rfl
def fxX10_mark (l0 : Option Nat) (l1 : Int32) (l2 : Int32) (l3 : Int32) (h : am_H) : Option (Int32 × am_H) := am_bd (fxX10_isSheet l1 h) (fun r1 h2 => if r1 = 0 then (some ((-1000000001 : Int32), h2)) else (am_gd (am_ob h2 l0 10) (am_gd (am_ix h2 (am_gr h2 l0 26) 0 l1) (if 0 ≤ (am_gi h2 (am_gr h2 l0 26) l1.toNatClampNeg) then (am_gd (am_ob h2 l0 10) (am_gd (am_ix h2 (am_gr h2 l0 27) 0 l1) (am_bd (fxX10_in l2 (0 : Int32) ((am_gi h2 (am_gr h2 l0 27) l1.toNatClampNeg) - (1 : Int32)) h2) (fun r3 h4 => if r3 = 0 then (some ((-1000000013 : Int32), h4)) else (am_gd (am_ob h4 l0 10) (am_gd (am_ix h4 (am_gr h4 l0 26) 0 l1) (if (am_gi h4 (am_gr h4 l0 26) l1.toNatClampNeg) = 0 then (if l3 = (-1000000005 : Int32) then (some ((-1000000012 : Int32), h4)) else (fxX10_mark_b60 l0 l1 l2 l3 h4)) else (fxX10_mark_b60 l0 l1 l2 l3 h4)))))))) else (some ((-1000000011 : Int32), h2))))))
set_option maxRecDepth 100000 in
theorem sxX10_mark {xs : List Int32} (l0 : Option Nat) (l1 : Int32) (l2 : Int32) (l3 : Int32) (h : am_H) : am_Sm xs am_ci mX10_mark 2 0 0 0 [some (am_R l0), some (am_I l1), some (am_I l2), some (am_I l3)] [] h (fxX10_mark l0 l1 l2 l3 h) := by
  unfold fxX10_mark
  refine am_iload_n dX10_mark_0 rfl ?_
  refine am_callS (cvj := am_ci) (mtj := mX10_isSheet) (dj := 1) (nj := 1) (rcj := 0) (rsj := 0) (rc' := 0) (rs' := 0) (st' := fun a9 => (am_I a9 :: [])) [am_I l1] [] dX10_mark_1 okX10_isSheet lk_RX10_167 (fun zA zH zE => txX10_isSheet l1 h zA zH zE) rfl (fun _ => rfl) (by decide) rfl (Nat.le_of_ble_eq_true rfl) (by decide) (by decide) (fun r1 h2 => ?_)
  refine am_if_ne (tgt := 10) dX10_mark_4 (by decide) (fun c9 => ?_) (fun c9 => ?_)
  · refine am_aload_n dX10_mark_10 rfl ?_
    refine am_getR dX10_mark_11 fk_RX10_57 rfl ?_
    refine am_iload_n dX10_mark_14 rfl ?_
    refine am_iald dX10_mark_15 ?_
    refine am_if_ge (tgt := 22) dX10_mark_16 (by decide) (fun c8 => ?_) (fun c8 => ?_)
    · refine am_iload_n dX10_mark_22 rfl ?_
      refine am_iconst (v := 0) dX10_mark_23 (by decide) ?_
      refine am_aload_n dX10_mark_24 rfl ?_
      refine am_getR dX10_mark_25 fk_RX10_60 rfl ?_
      refine am_iload_n dX10_mark_28 rfl ?_
      refine am_iald dX10_mark_29 ?_
      refine am_iconst (v := 1) dX10_mark_30 (by decide) ?_
      refine am_isub dX10_mark_31 ?_
      refine am_callS (cvj := am_ci) (mtj := mX10_in) (dj := 0) (nj := 3) (rcj := 0) (rsj := 0) (rc' := 0) (rs' := 0) (st' := fun a9 => (am_I a9 :: [])) [am_I l2, am_I (0 : Int32), am_I ((am_gi h2 (am_gr h2 l0 27) l1.toNatClampNeg) - (1 : Int32))] [] dX10_mark_32 okX10_in lk_RX10_85 (fun zA zH zE => txX10_in l2 (0 : Int32) ((am_gi h2 (am_gr h2 l0 27) l1.toNatClampNeg) - (1 : Int32)) h2 zA zH zE) rfl (fun _ => rfl) (by decide) rfl (Nat.le_of_ble_eq_true rfl) (by decide) (by decide) (fun r3 h4 => ?_)
      refine am_if_ne (tgt := 42) dX10_mark_35 (by decide) (fun c7 => ?_) (fun c7 => ?_)
      · refine am_aload_n dX10_mark_42 rfl ?_
        refine am_getR dX10_mark_43 fk_RX10_57 rfl ?_
        refine am_iload_n dX10_mark_46 rfl ?_
        refine am_iald dX10_mark_47 ?_
        refine am_if_ne (tgt := 60) dX10_mark_48 (by decide) (fun c6 => ?_) (fun c6 => ?_)
        · exact am_weak (sxX10_mark_b60 l0 l1 l2 l3 h4) ⟨rfl, ⟨rfl, ⟨rfl, ⟨rfl, trivial⟩⟩⟩⟩ (Nat.le_refl _) (Nat.le_refl _)
        refine am_iload_n dX10_mark_51 rfl ?_
        refine am_ldc (v := (-1000000005)) dX10_mark_52 wd1143 ?_
        refine am_icmp_ne (tgt := 60) dX10_mark_54 (by decide) (fun c5 => ?_) (fun c5 => ?_)
        · exact am_weak (sxX10_mark_b60 l0 l1 l2 l3 h4) ⟨rfl, ⟨rfl, ⟨rfl, ⟨rfl, trivial⟩⟩⟩⟩ (Nat.le_refl _) (Nat.le_refl _)
        refine am_ldc (v := (-1000000012)) dX10_mark_57 wd1093 ?_
        exact am_iret dX10_mark_59 rfl rfl
      refine am_ldcw (v := (-1000000013)) dX10_mark_38 wd1367 ?_
      exact am_iret dX10_mark_41 rfl rfl
    refine am_ldc (v := (-1000000011)) dX10_mark_19 wd1194 ?_
    exact am_iret dX10_mark_21 rfl rfl
  refine am_ldc (v := (-1000000001)) dX10_mark_7 wd1060 ?_
  exact am_iret dX10_mark_9 rfl rfl
theorem txX10_mark {xs : List Int32} (l0 : Option Nat) (l1 : Int32) (l2 : Int32) (l3 : Int32) (h : am_H) (a : Int32) (h2 : am_H) (e : fxX10_mark l0 l1 l2 l3 h = some (a, h2)) : am_Ct xs mX10_mark 2 0 0 [am_R l0, am_I l1, am_I l2, am_I l3] h (fun v h3 => v = am_ci a ∧ h3 = h2) := am_meth okX10_mark (Nat.le_of_ble_eq_true rfl) rfl (sxX10_mark l0 l1 l2 l3 h) e
theorem dX10_pour_0 : am_at cX10_pour 0 (.iload_n 1) 1 1 := by decide +kernel
theorem dX10_pour_1 : am_at cX10_pour 1 (.invokestatic 167) 3 4 := by decide +kernel
theorem dX10_pour_4 : am_at cX10_pour 4 (.ifCond .ne 6) 3 7 := by decide +kernel
theorem dX10_pour_7 : am_at cX10_pour 7 (.ldc 93) 2 9 := by decide +kernel
theorem dX10_pour_9 : am_at cX10_pour 9 (.ireturn) 1 10 := by decide +kernel
theorem dX10_pour_10 : am_at cX10_pour 10 (.aload_n 0) 1 11 := by decide +kernel
theorem dX10_pour_11 : am_at cX10_pour 11 (.getfield 57) 3 14 := by decide +kernel
theorem dX10_pour_14 : am_at cX10_pour 14 (.iload_n 1) 1 15 := by decide +kernel
theorem dX10_pour_15 : am_at cX10_pour 15 (.iaload) 1 16 := by decide +kernel
theorem dX10_pour_16 : am_at cX10_pour 16 (.ifCond .ge 6) 3 19 := by decide +kernel
theorem dX10_pour_19 : am_at cX10_pour 19 (.ldc 170) 2 21 := by decide +kernel
theorem dX10_pour_21 : am_at cX10_pour 21 (.ireturn) 1 22 := by decide +kernel
theorem dX10_pour_22 : am_at cX10_pour 22 (.iconst 0) 1 23 := by decide +kernel
theorem dX10_pour_23 : am_at cX10_pour 23 (.istore_n 2) 1 24 := by decide +kernel
theorem dX10_pour_24 : am_at cX10_pour 24 (.iconst 0) 1 25 := by decide +kernel
theorem dX10_pour_25 : am_at cX10_pour 25 (.istore_n 3) 1 26 := by decide +kernel
theorem dX10_pour_26 : am_at cX10_pour 26 (.iload_n 3) 1 27 := by decide +kernel
theorem dX10_pour_27 : am_at cX10_pour 27 (.aload_n 0) 1 28 := by decide +kernel
theorem dX10_pour_28 : am_at cX10_pour 28 (.getfield 60) 3 31 := by decide +kernel
theorem dX10_pour_31 : am_at cX10_pour 31 (.iload_n 1) 1 32 := by decide +kernel
theorem dX10_pour_32 : am_at cX10_pour 32 (.iaload) 1 33 := by decide +kernel
theorem dX10_pour_33 : am_at cX10_pour 33 (.if_icmp .ge 86) 3 36 := by decide +kernel
theorem dX10_pour_36 : am_at cX10_pour 36 (.iload_n 3) 1 37 := by decide +kernel
theorem dX10_pour_37 : am_at cX10_pour 37 (.aload_n 0) 1 38 := by decide +kernel
theorem dX10_pour_38 : am_at cX10_pour 38 (.getfield 9) 3 41 := by decide +kernel
theorem dX10_pour_41 : am_at cX10_pour 41 (.iconst 1) 1 42 := by decide +kernel
theorem dX10_pour_42 : am_at cX10_pour 42 (.iaload) 1 43 := by decide +kernel
theorem dX10_pour_43 : am_at cX10_pour 43 (.if_icmp .ge 76) 3 46 := by decide +kernel
theorem dX10_pour_46 : am_at cX10_pour 46 (.aload_n 0) 1 47 := by decide +kernel
theorem dX10_pour_47 : am_at cX10_pour 47 (.getfield 63) 3 50 := by decide +kernel
theorem dX10_pour_50 : am_at cX10_pour 50 (.bipush 24) 2 52 := by decide +kernel
theorem dX10_pour_52 : am_at cX10_pour 52 (.iload_n 1) 1 53 := by decide +kernel
theorem dX10_pour_53 : am_at cX10_pour 53 (.imul) 1 54 := by decide +kernel
theorem dX10_pour_54 : am_at cX10_pour 54 (.iload_n 3) 1 55 := by decide +kernel
theorem dX10_pour_55 : am_at cX10_pour 55 (.iadd) 1 56 := by decide +kernel
theorem dX10_pour_56 : am_at cX10_pour 56 (.iaload) 1 57 := by decide +kernel
theorem dX10_pour_57 : am_at cX10_pour 57 (.istore 4) 2 59 := by decide +kernel
theorem dX10_pour_59 : am_at cX10_pour 59 (.iload 4) 2 61 := by decide +kernel
theorem dX10_pour_61 : am_at cX10_pour 61 (.ldc 84) 2 63 := by decide +kernel
theorem dX10_pour_63 : am_at cX10_pour 63 (.if_icmp .ne 12) 3 66 := by decide +kernel
theorem dX10_pour_66 : am_at cX10_pour 66 (.aload_n 0) 1 67 := by decide +kernel
theorem dX10_pour_67 : am_at cX10_pour 67 (.iload_n 3) 1 68 := by decide +kernel
theorem dX10_pour_68 : am_at cX10_pour 68 (.iconst 3) 1 69 := by decide +kernel
theorem dX10_pour_69 : am_at cX10_pour 69 (.invokevirtual 99) 3 72 := by decide +kernel
theorem dX10_pour_72 : am_at cX10_pour 72 (.goto 11) 3 75 := by decide +kernel
theorem dX10_pour_75 : am_at cX10_pour 75 (.iload 4) 2 77 := by decide +kernel
theorem dX10_pour_77 : am_at cX10_pour 77 (.iconst 0) 1 78 := by decide +kernel
theorem dX10_pour_78 : am_at cX10_pour 78 (.bipush 99) 2 80 := by decide +kernel
theorem dX10_pour_80 : am_at cX10_pour 80 (.invokestatic 128) 3 83 := by decide +kernel
theorem dX10_pour_83 : am_at cX10_pour 83 (.istore 5) 2 85 := by decide +kernel
theorem dX10_pour_85 : am_at cX10_pour 85 (.iload_n 2) 1 86 := by decide +kernel
theorem dX10_pour_86 : am_at cX10_pour 86 (.aload_n 0) 1 87 := by decide +kernel
theorem dX10_pour_87 : am_at cX10_pour 87 (.bipush 16) 2 89 := by decide +kernel
theorem dX10_pour_89 : am_at cX10_pour 89 (.bipush 6) 2 91 := by decide +kernel
theorem dX10_pour_91 : am_at cX10_pour 91 (.iload_n 3) 1 92 := by decide +kernel
theorem dX10_pour_92 : am_at cX10_pour 92 (.imul) 1 93 := by decide +kernel
theorem dX10_pour_93 : am_at cX10_pour 93 (.iadd) 1 94 := by decide +kernel
theorem dX10_pour_94 : am_at cX10_pour 94 (.iconst 3) 1 95 := by decide +kernel
theorem dX10_pour_95 : am_at cX10_pour 95 (.iadd) 1 96 := by decide +kernel
theorem dX10_pour_96 : am_at cX10_pour 96 (.iload 5) 2 98 := by decide +kernel
theorem dX10_pour_98 : am_at cX10_pour 98 (.invokevirtual 116) 3 101 := by decide +kernel
theorem dX10_pour_101 : am_at cX10_pour 101 (.iload 5) 2 103 := by decide +kernel
theorem dX10_pour_103 : am_at cX10_pour 103 (.if_icmp .ne 7) 3 106 := by decide +kernel
theorem dX10_pour_106 : am_at cX10_pour 106 (.iconst 0) 1 107 := by decide +kernel
theorem dX10_pour_107 : am_at cX10_pour 107 (.goto 4) 3 110 := by decide +kernel
theorem dX10_pour_110 : am_at cX10_pour 110 (.iconst 1) 1 111 := by decide +kernel
theorem dX10_pour_111 : am_at cX10_pour 111 (.iadd) 1 112 := by decide +kernel
theorem dX10_pour_112 : am_at cX10_pour 112 (.istore_n 2) 1 113 := by decide +kernel
theorem dX10_pour_113 : am_at cX10_pour 113 (.iinc 3 1) 3 116 := by decide +kernel
theorem dX10_pour_116 : am_at cX10_pour 116 (.goto (-90)) 3 119 := by decide +kernel
theorem dX10_pour_119 : am_at cX10_pour 119 (.iload_n 2) 1 120 := by decide +kernel
theorem dX10_pour_120 : am_at cX10_pour 120 (.ireturn) 1 121 := by decide +kernel
def fxX10_pour_b111 (k26 : Option Nat → Int32 → Int32 → Int32 → am_H → Option (Int32 × am_H)) (l0 : Option Nat) (l1 : Int32) (l3 : Int32) (s0 : Int32) (s1 : Int32) (h : am_H) : Option (Int32 × am_H) := am_lt (s1 + s0) (fun x19 => am_lt (l3 + 1) (fun x20 => k26 l0 l1 x19 x20 h))
set_option maxRecDepth 100000 in
theorem sxX10_pour_b111 {xs : List Int32} (k26 : Option Nat → Int32 → Int32 → Int32 → am_H → Option (Int32 × am_H)) (hk26 : ∀ (l0 : Option Nat) (l1 : Int32) (l2 : Int32) (l3 : Int32) (h : am_H), am_Sm xs am_ci mX10_pour 2 0 0 26 [some (am_R l0), some (am_I l1), some (am_I l2), some (am_I l3), none, none] [] h (k26 l0 l1 l2 l3 h)) (l0 : Option Nat) (l1 : Int32) (l3 : Int32) (s0 : Int32) (s1 : Int32) (h : am_H) : am_Sm xs am_ci mX10_pour 2 0 0 111 [some (am_R l0), some (am_I l1), none, some (am_I l3), none, none] [am_I s0, am_I s1] h (fxX10_pour_b111 k26 l0 l1 l3 s0 s1 h) := by
  unfold fxX10_pour_b111
  refine am_iadd dX10_pour_111 ?_
  refine am_istore_n (LL := fun y9 => [some (am_R l0), some (am_I l1), some (am_I y9), some (am_I l3), none, none]) dX10_pour_112 (by decide) (fun _ => rfl) (fun x19 => ?_)
  refine am_iinc (v := 1) (LL := fun y9 => [some (am_R l0), some (am_I l1), some (am_I x19), some (am_I y9), none, none]) dX10_pour_113 (by decide) rfl (by decide) (fun _ => rfl) (fun x20 => ?_)
  refine am_goto (tgt := 26) dX10_pour_116 (by decide) ?_
  exact am_weak (hk26 l0 l1 x19 x20 h) ⟨rfl, ⟨rfl, ⟨rfl, ⟨rfl, trivial⟩⟩⟩⟩ (Nat.le_refl _) (Nat.le_refl _)
def fxX10_pour_b83 (k26 : Option Nat → Int32 → Int32 → Int32 → am_H → Option (Int32 × am_H)) (l0 : Option Nat) (l1 : Int32) (l2 : Int32) (l3 : Int32) (s0 : Int32) (h : am_H) : Option (Int32 × am_H) := am_lt s0 (fun x15 => am_gd (am_ob h l0 10) (am_bd (fxX10_becomes l0 (((16 : Int32) + ((6 : Int32) * l3)) + (3 : Int32)) x15 h) (fun r16 h17 => if r16 = x15 then (fxX10_pour_b111 k26 l0 l1 l3 (0 : Int32) l2 h17) else (fxX10_pour_b111 k26 l0 l1 l3 (1 : Int32) l2 h17))))
set_option maxRecDepth 100000 in
theorem sxX10_pour_b83 {xs : List Int32} (k26 : Option Nat → Int32 → Int32 → Int32 → am_H → Option (Int32 × am_H)) (hk26 : ∀ (l0 : Option Nat) (l1 : Int32) (l2 : Int32) (l3 : Int32) (h : am_H), am_Sm xs am_ci mX10_pour 2 0 0 26 [some (am_R l0), some (am_I l1), some (am_I l2), some (am_I l3), none, none] [] h (k26 l0 l1 l2 l3 h)) (l0 : Option Nat) (l1 : Int32) (l2 : Int32) (l3 : Int32) (s0 : Int32) (h : am_H) : am_Sm xs am_ci mX10_pour 2 0 0 83 [some (am_R l0), some (am_I l1), some (am_I l2), some (am_I l3), none, none] [am_I s0] h (fxX10_pour_b83 k26 l0 l1 l2 l3 s0 h) := by
  unfold fxX10_pour_b83
  refine am_istore (LL := fun y9 => [some (am_R l0), some (am_I l1), some (am_I l2), some (am_I l3), none, some (am_I y9)]) dX10_pour_83 (by decide) (fun _ => rfl) (fun x15 => ?_)
  refine am_iload_n dX10_pour_85 rfl ?_
  refine am_aload_n dX10_pour_86 rfl ?_
  refine am_bipush (v := 16) dX10_pour_87 (by decide) ?_
  refine am_bipush (v := 6) dX10_pour_89 (by decide) ?_
  refine am_iload_n dX10_pour_91 rfl ?_
  refine am_imul dX10_pour_92 ?_
  refine am_iadd dX10_pour_93 ?_
  refine am_iconst (v := 3) dX10_pour_94 (by decide) ?_
  refine am_iadd dX10_pour_95 ?_
  refine am_iload dX10_pour_96 rfl ?_
  refine am_callV (cvj := am_ci) (mtj := mX10_becomes) (dj := 0) (nj := 2) (rcj := 0) (rsj := 0) (rc' := 0) (rs' := 0) (ci := 10) (st' := fun a9 => (am_I a9 :: [am_I l2])) ⟨_, rfl, rfl⟩ [am_I (((16 : Int32) + ((6 : Int32) * l3)) + (3 : Int32)), am_I x15] [am_I l2] dX10_pour_98 okX10_becomes lk_RX10_116 (fun zA zH zE => txX10_becomes l0 (((16 : Int32) + ((6 : Int32) * l3)) + (3 : Int32)) x15 h zA zH zE) rfl (fun _ => rfl) (by decide) rfl (Nat.le_of_ble_eq_true rfl) (by decide) (by decide) (fun r16 h17 => ?_)
  refine am_iload dX10_pour_101 rfl ?_
  refine am_icmp_ne (tgt := 110) dX10_pour_103 (by decide) (fun c18 => ?_) (fun c18 => ?_)
  · refine am_iconst (v := 1) dX10_pour_110 (by decide) ?_
    exact am_weak (sxX10_pour_b111 k26 hk26 l0 l1 l3 (1 : Int32) l2 h17) ⟨rfl, ⟨rfl, ⟨rfl, trivial⟩⟩⟩ (Nat.le_refl _) (Nat.le_refl _)
  refine am_iconst (v := 0) dX10_pour_106 (by decide) ?_
  refine am_goto (tgt := 111) dX10_pour_107 (by decide) ?_
  exact am_weak (sxX10_pour_b111 k26 hk26 l0 l1 l3 (0 : Int32) l2 h17) ⟨rfl, ⟨rfl, ⟨rfl, trivial⟩⟩⟩ (Nat.le_refl _) (Nat.le_refl _)
def fxX10_pour_b26 : Nat → Option Nat → Int32 → Int32 → Int32 → am_H → Option (Int32 × am_H)
  | 0, _, _, _, _, _ => none
  | n + 1, l0, l1, l2, l3, h => am_gd (am_ob h l0 10) (am_gd (am_ix h (am_gr h l0 27) 0 l1) (if (am_gi h (am_gr h l0 27) l1.toNatClampNeg) ≤ l3 then (some (l2, h)) else (am_gd (am_ob h l0 10) (am_gd (am_ix h (am_gr h l0 0) 0 (1 : Int32)) (if (am_gi h (am_gr h l0 0) (1 : Int32).toNatClampNeg) ≤ l3 then (some (l2, h)) else (am_gd (am_ob h l0 10) (am_gd (am_ix h (am_gr h l0 28) 0 (((24 : Int32) * l1) + l3)) (am_lt (am_gi h (am_gr h l0 28) (((24 : Int32) * l1) + l3).toNatClampNeg) (fun x7 => if x7 = (-1000000005 : Int32) then (am_gd (am_ob h l0 10) (am_bd (fxX10_of l0 l3 (3 : Int32) h) (fun r10 h11 => fxX10_pour_b83 (fxX10_pour_b26 n) l0 l1 l2 l3 r10 h11))) else (am_bd (fxX10_within x7 (0 : Int32) (99 : Int32) h) (fun r8 h9 => fxX10_pour_b83 (fxX10_pour_b26 n) l0 l1 l2 l3 r8 h9)))))))))))
set_option maxRecDepth 100000 in
theorem sxX10_pour_b26 {xs : List Int32} : ∀ (n : Nat) (l0 : Option Nat) (l1 : Int32) (l2 : Int32) (l3 : Int32) (h : am_H), am_Sm xs am_ci mX10_pour 2 0 0 26 [some (am_R l0), some (am_I l1), some (am_I l2), some (am_I l3), none, none] [] h (fxX10_pour_b26 n l0 l1 l2 l3 h) := by
  intro n
  induction n with
  | zero => intros; exact am_none
  | succ n ih =>
    intro l0 l1 l2 l3 h
    rw [fxX10_pour_b26]
    refine am_iload_n dX10_pour_26 rfl ?_
    refine am_aload_n dX10_pour_27 rfl ?_
    refine am_getR dX10_pour_28 fk_RX10_60 rfl ?_
    refine am_iload_n dX10_pour_31 rfl ?_
    refine am_iald dX10_pour_32 ?_
    refine am_icmp_ge (tgt := 119) dX10_pour_33 (by decide) (fun c14 => ?_) (fun c14 => ?_)
    · refine am_iload_n dX10_pour_119 rfl ?_
      exact am_iret dX10_pour_120 rfl rfl
    refine am_iload_n dX10_pour_36 rfl ?_
    refine am_aload_n dX10_pour_37 rfl ?_
    refine am_getR dX10_pour_38 fk_RX10_9 rfl ?_
    refine am_iconst (v := 1) dX10_pour_41 (by decide) ?_
    refine am_iald dX10_pour_42 ?_
    refine am_icmp_ge (tgt := 119) dX10_pour_43 (by decide) (fun c13 => ?_) (fun c13 => ?_)
    · refine am_iload_n dX10_pour_119 rfl ?_
      exact am_iret dX10_pour_120 rfl rfl
    refine am_aload_n dX10_pour_46 rfl ?_
    refine am_getR dX10_pour_47 fk_RX10_63 rfl ?_
    refine am_bipush (v := 24) dX10_pour_50 (by decide) ?_
    refine am_iload_n dX10_pour_52 rfl ?_
    refine am_imul dX10_pour_53 ?_
    refine am_iload_n dX10_pour_54 rfl ?_
    refine am_iadd dX10_pour_55 ?_
    refine am_iald dX10_pour_56 ?_
    refine am_istore (LL := fun y9 => [some (am_R l0), some (am_I l1), some (am_I l2), some (am_I l3), some (am_I y9), none]) dX10_pour_57 (by decide) (fun _ => rfl) (fun x7 => ?_)
    refine am_iload dX10_pour_59 rfl ?_
    refine am_ldc (v := (-1000000005)) dX10_pour_61 wd1143 ?_
    refine am_icmp_ne (tgt := 75) dX10_pour_63 (by decide) (fun c12 => ?_) (fun c12 => ?_)
    · refine am_iload dX10_pour_75 rfl ?_
      refine am_iconst (v := 0) dX10_pour_77 (by decide) ?_
      refine am_bipush (v := 99) dX10_pour_78 (by decide) ?_
      refine am_callS (cvj := am_ci) (mtj := mX10_within) (dj := 0) (nj := 3) (rcj := 0) (rsj := 0) (rc' := 0) (rs' := 0) (st' := fun a9 => (am_I a9 :: [])) [am_I x7, am_I (0 : Int32), am_I (99 : Int32)] [] dX10_pour_80 okX10_within lk_RX10_128 (fun zA zH zE => txX10_within x7 (0 : Int32) (99 : Int32) h zA zH zE) rfl (fun _ => rfl) (by decide) rfl (Nat.le_of_ble_eq_true rfl) (by decide) (by decide) (fun r8 h9 => ?_)
      exact am_weak (sxX10_pour_b83 (fxX10_pour_b26 n) ih l0 l1 l2 l3 r8 h9) ⟨rfl, ⟨rfl, ⟨rfl, ⟨rfl, trivial⟩⟩⟩⟩ (Nat.le_refl _) (Nat.le_refl _)
    refine am_aload_n dX10_pour_66 rfl ?_
    refine am_iload_n dX10_pour_67 rfl ?_
    refine am_iconst (v := 3) dX10_pour_68 (by decide) ?_
    refine am_callV (cvj := am_ci) (mtj := mX10_of) (dj := 0) (nj := 2) (rcj := 0) (rsj := 0) (rc' := 0) (rs' := 0) (ci := 10) (st' := fun a9 => (am_I a9 :: [])) ⟨_, rfl, rfl⟩ [am_I l3, am_I (3 : Int32)] [] dX10_pour_69 okX10_of lk_RX10_99 (fun zA zH zE => txX10_of l0 l3 (3 : Int32) h zA zH zE) rfl (fun _ => rfl) (by decide) rfl (Nat.le_of_ble_eq_true rfl) (by decide) (by decide) (fun r10 h11 => ?_)
    refine am_goto (tgt := 83) dX10_pour_72 (by decide) ?_
    exact am_weak (sxX10_pour_b83 (fxX10_pour_b26 n) ih l0 l1 l2 l3 r10 h11) ⟨rfl, ⟨rfl, ⟨rfl, ⟨rfl, trivial⟩⟩⟩⟩ (Nat.le_refl _) (Nat.le_refl _)
def fxX10_pour (l0 : Option Nat) (l1 : Int32) (h : am_H) : Option (Int32 × am_H) := am_bd (fxX10_isSheet l1 h) (fun r1 h2 => if r1 = 0 then (some ((-1000000001 : Int32), h2)) else (am_gd (am_ob h2 l0 10) (am_gd (am_ix h2 (am_gr h2 l0 26) 0 l1) (if 0 ≤ (am_gi h2 (am_gr h2 l0 26) l1.toNatClampNeg) then (am_lt (0 : Int32) (fun x3 => am_lt (0 : Int32) (fun x4 => fxX10_pour_b26 am_F l0 l1 x3 x4 h2))) else (some ((-1000000011 : Int32), h2))))))
set_option maxRecDepth 100000 in
theorem sxX10_pour {xs : List Int32} (l0 : Option Nat) (l1 : Int32) (h : am_H) : am_Sm xs am_ci mX10_pour 2 0 0 0 [some (am_R l0), some (am_I l1), none, none, none, none] [] h (fxX10_pour l0 l1 h) := by
  unfold fxX10_pour
  refine am_iload_n dX10_pour_0 rfl ?_
  refine am_callS (cvj := am_ci) (mtj := mX10_isSheet) (dj := 1) (nj := 1) (rcj := 0) (rsj := 0) (rc' := 0) (rs' := 0) (st' := fun a9 => (am_I a9 :: [])) [am_I l1] [] dX10_pour_1 okX10_isSheet lk_RX10_167 (fun zA zH zE => txX10_isSheet l1 h zA zH zE) rfl (fun _ => rfl) (by decide) rfl (Nat.le_of_ble_eq_true rfl) (by decide) (by decide) (fun r1 h2 => ?_)
  refine am_if_ne (tgt := 10) dX10_pour_4 (by decide) (fun c6 => ?_) (fun c6 => ?_)
  · refine am_aload_n dX10_pour_10 rfl ?_
    refine am_getR dX10_pour_11 fk_RX10_57 rfl ?_
    refine am_iload_n dX10_pour_14 rfl ?_
    refine am_iald dX10_pour_15 ?_
    refine am_if_ge (tgt := 22) dX10_pour_16 (by decide) (fun c5 => ?_) (fun c5 => ?_)
    · refine am_iconst (v := 0) dX10_pour_22 (by decide) ?_
      refine am_istore_n (LL := fun y9 => [some (am_R l0), some (am_I l1), some (am_I y9), none, none, none]) dX10_pour_23 (by decide) (fun _ => rfl) (fun x3 => ?_)
      refine am_iconst (v := 0) dX10_pour_24 (by decide) ?_
      refine am_istore_n (LL := fun y9 => [some (am_R l0), some (am_I l1), some (am_I x3), some (am_I y9), none, none]) dX10_pour_25 (by decide) (fun _ => rfl) (fun x4 => ?_)
      exact am_weak (sxX10_pour_b26 am_F l0 l1 x3 x4 h2) ⟨rfl, ⟨rfl, ⟨rfl, ⟨rfl, trivial⟩⟩⟩⟩ (Nat.le_refl _) (Nat.le_refl _)
    refine am_ldc (v := (-1000000011)) dX10_pour_19 wd1194 ?_
    exact am_iret dX10_pour_21 rfl rfl
  refine am_ldc (v := (-1000000001)) dX10_pour_7 wd1060 ?_
  exact am_iret dX10_pour_9 rfl rfl
theorem txX10_pour {xs : List Int32} (l0 : Option Nat) (l1 : Int32) (h : am_H) (a : Int32) (h2 : am_H) (e : fxX10_pour l0 l1 h = some (a, h2)) : am_Ct xs mX10_pour 2 0 0 [am_R l0, am_I l1] h (fun v h3 => v = am_ci a ∧ h3 = h2) := am_meth okX10_pour (Nat.le_of_ble_eq_true rfl) rfl (sxX10_pour l0 l1 h) e
theorem dX10_reads_0 : am_at cX10_reads 0 (.iload_n 1) 1 1 := by decide +kernel
theorem dX10_reads_1 : am_at cX10_reads 1 (.invokestatic 167) 3 4 := by decide +kernel
theorem dX10_reads_4 : am_at cX10_reads 4 (.ifCond .ne 6) 3 7 := by decide +kernel
theorem dX10_reads_7 : am_at cX10_reads 7 (.ldc 93) 2 9 := by decide +kernel
theorem dX10_reads_9 : am_at cX10_reads 9 (.ireturn) 1 10 := by decide +kernel
theorem dX10_reads_10 : am_at cX10_reads 10 (.aload_n 0) 1 11 := by decide +kernel
theorem dX10_reads_11 : am_at cX10_reads 11 (.getfield 57) 3 14 := by decide +kernel
theorem dX10_reads_14 : am_at cX10_reads 14 (.iload_n 1) 1 15 := by decide +kernel
theorem dX10_reads_15 : am_at cX10_reads 15 (.iaload) 1 16 := by decide +kernel
theorem dX10_reads_16 : am_at cX10_reads 16 (.ifCond .ge 6) 3 19 := by decide +kernel
theorem dX10_reads_19 : am_at cX10_reads 19 (.ldc 170) 2 21 := by decide +kernel
theorem dX10_reads_21 : am_at cX10_reads 21 (.ireturn) 1 22 := by decide +kernel
theorem dX10_reads_22 : am_at cX10_reads 22 (.iconst 0) 1 23 := by decide +kernel
theorem dX10_reads_23 : am_at cX10_reads 23 (.istore_n 2) 1 24 := by decide +kernel
theorem dX10_reads_24 : am_at cX10_reads 24 (.iload_n 2) 1 25 := by decide +kernel
theorem dX10_reads_25 : am_at cX10_reads 25 (.aload_n 0) 1 26 := by decide +kernel
theorem dX10_reads_26 : am_at cX10_reads 26 (.getfield 60) 3 29 := by decide +kernel
theorem dX10_reads_29 : am_at cX10_reads 29 (.iload_n 1) 1 30 := by decide +kernel
theorem dX10_reads_30 : am_at cX10_reads 30 (.iaload) 1 31 := by decide +kernel
theorem dX10_reads_31 : am_at cX10_reads 31 (.if_icmp .ge 47) 3 34 := by decide +kernel
theorem dX10_reads_34 : am_at cX10_reads 34 (.aload_n 0) 1 35 := by decide +kernel
theorem dX10_reads_35 : am_at cX10_reads 35 (.getfield 63) 3 38 := by decide +kernel
theorem dX10_reads_38 : am_at cX10_reads 38 (.bipush 24) 2 40 := by decide +kernel
theorem dX10_reads_40 : am_at cX10_reads 40 (.iload_n 1) 1 41 := by decide +kernel
theorem dX10_reads_41 : am_at cX10_reads 41 (.imul) 1 42 := by decide +kernel
theorem dX10_reads_42 : am_at cX10_reads 42 (.iload_n 2) 1 43 := by decide +kernel
theorem dX10_reads_43 : am_at cX10_reads 43 (.iadd) 1 44 := by decide +kernel
theorem dX10_reads_44 : am_at cX10_reads 44 (.iaload) 1 45 := by decide +kernel
theorem dX10_reads_45 : am_at cX10_reads 45 (.istore_n 3) 1 46 := by decide +kernel
theorem dX10_reads_46 : am_at cX10_reads 46 (.iload_n 3) 1 47 := by decide +kernel
theorem dX10_reads_47 : am_at cX10_reads 47 (.ldc 84) 2 49 := by decide +kernel
theorem dX10_reads_49 : am_at cX10_reads 49 (.if_icmp .eq 23) 3 52 := by decide +kernel
theorem dX10_reads_52 : am_at cX10_reads 52 (.aload_n 0) 1 53 := by decide +kernel
theorem dX10_reads_53 : am_at cX10_reads 53 (.iload_n 2) 1 54 := by decide +kernel
theorem dX10_reads_54 : am_at cX10_reads 54 (.invokevirtual 103) 3 57 := by decide +kernel
theorem dX10_reads_57 : am_at cX10_reads 57 (.ifCond .eq 13) 3 60 := by decide +kernel
theorem dX10_reads_60 : am_at cX10_reads 60 (.iload_n 3) 1 61 := by decide +kernel
theorem dX10_reads_61 : am_at cX10_reads 61 (.aload_n 0) 1 62 := by decide +kernel
theorem dX10_reads_62 : am_at cX10_reads 62 (.iload_n 2) 1 63 := by decide +kernel
theorem dX10_reads_63 : am_at cX10_reads 63 (.iconst 4) 1 64 := by decide +kernel
theorem dX10_reads_64 : am_at cX10_reads 64 (.invokevirtual 99) 3 67 := by decide +kernel
theorem dX10_reads_67 : am_at cX10_reads 67 (.if_icmp .eq 5) 3 70 := by decide +kernel
theorem dX10_reads_70 : am_at cX10_reads 70 (.iload_n 2) 1 71 := by decide +kernel
theorem dX10_reads_71 : am_at cX10_reads 71 (.ireturn) 1 72 := by decide +kernel
theorem dX10_reads_72 : am_at cX10_reads 72 (.iinc 2 1) 3 75 := by decide +kernel
theorem dX10_reads_75 : am_at cX10_reads 75 (.goto (-51)) 3 78 := by decide +kernel
theorem dX10_reads_78 : am_at cX10_reads 78 (.ldc 84) 2 80 := by decide +kernel
theorem dX10_reads_80 : am_at cX10_reads 80 (.ireturn) 1 81 := by decide +kernel
def fxX10_reads_b72 (k24 : Option Nat → Int32 → Int32 → am_H → Option (Int32 × am_H)) (l0 : Option Nat) (l1 : Int32) (l2 : Int32) (h : am_H) : Option (Int32 × am_H) := am_lt (l2 + 1) (fun x15 => k24 l0 l1 x15 h)
set_option maxRecDepth 100000 in
theorem sxX10_reads_b72 {xs : List Int32} (k24 : Option Nat → Int32 → Int32 → am_H → Option (Int32 × am_H)) (hk24 : ∀ (l0 : Option Nat) (l1 : Int32) (l2 : Int32) (h : am_H), am_Sm xs am_ci mX10_reads 2 0 0 24 [some (am_R l0), some (am_I l1), some (am_I l2), none] [] h (k24 l0 l1 l2 h)) (l0 : Option Nat) (l1 : Int32) (l2 : Int32) (h : am_H) : am_Sm xs am_ci mX10_reads 2 0 0 72 [some (am_R l0), some (am_I l1), some (am_I l2), none] [] h (fxX10_reads_b72 k24 l0 l1 l2 h) := by
  unfold fxX10_reads_b72
  refine am_iinc (v := 1) (LL := fun y9 => [some (am_R l0), some (am_I l1), some (am_I y9), none]) dX10_reads_72 (by decide) rfl (by decide) (fun _ => rfl) (fun x15 => ?_)
  refine am_goto (tgt := 24) dX10_reads_75 (by decide) ?_
  exact am_weak (hk24 l0 l1 x15 h) ⟨rfl, ⟨rfl, ⟨rfl, trivial⟩⟩⟩ (Nat.le_refl _) (Nat.le_refl _)
def fxX10_reads_b24 : Nat → Option Nat → Int32 → Int32 → am_H → Option (Int32 × am_H)
  | 0, _, _, _, _ => none
  | n + 1, l0, l1, l2, h => am_gd (am_ob h l0 10) (am_gd (am_ix h (am_gr h l0 27) 0 l1) (if (am_gi h (am_gr h l0 27) l1.toNatClampNeg) ≤ l2 then (some ((-1000000005 : Int32), h)) else (am_gd (am_ob h l0 10) (am_gd (am_ix h (am_gr h l0 28) 0 (((24 : Int32) * l1) + l2)) (am_lt (am_gi h (am_gr h l0 28) (((24 : Int32) * l1) + l2).toNatClampNeg) (fun x6 => if x6 = (-1000000005 : Int32) then (fxX10_reads_b72 (fxX10_reads_b24 n) l0 l1 l2 h) else (am_gd (am_ob h l0 10) (am_bd (fxX10_isGlove l0 l2 h) (fun r7 h8 => if r7 = 0 then (some (l2, h8)) else (am_gd (am_ob h8 l0 10) (am_bd (fxX10_of l0 l2 (4 : Int32) h8) (fun r9 h10 => if x6 = r9 then (fxX10_reads_b72 (fxX10_reads_b24 n) l0 l1 l2 h10) else (some (l2, h10))))))))))))))
set_option maxRecDepth 100000 in
theorem sxX10_reads_b24 {xs : List Int32} : ∀ (n : Nat) (l0 : Option Nat) (l1 : Int32) (l2 : Int32) (h : am_H), am_Sm xs am_ci mX10_reads 2 0 0 24 [some (am_R l0), some (am_I l1), some (am_I l2), none] [] h (fxX10_reads_b24 n l0 l1 l2 h) := by
  intro n
  induction n with
  | zero => intros; exact am_none
  | succ n ih =>
    intro l0 l1 l2 h
    rw [fxX10_reads_b24]
    refine am_iload_n dX10_reads_24 rfl ?_
    refine am_aload_n dX10_reads_25 rfl ?_
    refine am_getR dX10_reads_26 fk_RX10_60 rfl ?_
    refine am_iload_n dX10_reads_29 rfl ?_
    refine am_iald dX10_reads_30 ?_
    refine am_icmp_ge (tgt := 78) dX10_reads_31 (by decide) (fun c14 => ?_) (fun c14 => ?_)
    · refine am_ldc (v := (-1000000005)) dX10_reads_78 wd1143 ?_
      exact am_iret dX10_reads_80 rfl rfl
    refine am_aload_n dX10_reads_34 rfl ?_
    refine am_getR dX10_reads_35 fk_RX10_63 rfl ?_
    refine am_bipush (v := 24) dX10_reads_38 (by decide) ?_
    refine am_iload_n dX10_reads_40 rfl ?_
    refine am_imul dX10_reads_41 ?_
    refine am_iload_n dX10_reads_42 rfl ?_
    refine am_iadd dX10_reads_43 ?_
    refine am_iald dX10_reads_44 ?_
    refine am_istore_n (LL := fun y9 => [some (am_R l0), some (am_I l1), some (am_I l2), some (am_I y9)]) dX10_reads_45 (by decide) (fun _ => rfl) (fun x6 => ?_)
    refine am_iload_n dX10_reads_46 rfl ?_
    refine am_ldc (v := (-1000000005)) dX10_reads_47 wd1143 ?_
    refine am_icmp_eq (tgt := 72) dX10_reads_49 (by decide) (fun c13 => ?_) (fun c13 => ?_)
    · exact am_weak (sxX10_reads_b72 (fxX10_reads_b24 n) ih l0 l1 l2 h) ⟨rfl, ⟨rfl, ⟨rfl, trivial⟩⟩⟩ (Nat.le_refl _) (Nat.le_refl _)
    refine am_aload_n dX10_reads_52 rfl ?_
    refine am_iload_n dX10_reads_53 rfl ?_
    refine am_callV (cvj := am_ci) (mtj := mX10_isGlove) (dj := 1) (nj := 1) (rcj := 0) (rsj := 0) (rc' := 0) (rs' := 0) (ci := 10) (st' := fun a9 => (am_I a9 :: [])) ⟨_, rfl, rfl⟩ [am_I l2] [] dX10_reads_54 okX10_isGlove lk_RX10_103 (fun zA zH zE => txX10_isGlove l0 l2 h zA zH zE) rfl (fun _ => rfl) (by decide) rfl (Nat.le_of_ble_eq_true rfl) (by decide) (by decide) (fun r7 h8 => ?_)
    refine am_if_eq (tgt := 70) dX10_reads_57 (by decide) (fun c12 => ?_) (fun c12 => ?_)
    · refine am_iload_n dX10_reads_70 rfl ?_
      exact am_iret dX10_reads_71 rfl rfl
    refine am_iload_n dX10_reads_60 rfl ?_
    refine am_aload_n dX10_reads_61 rfl ?_
    refine am_iload_n dX10_reads_62 rfl ?_
    refine am_iconst (v := 4) dX10_reads_63 (by decide) ?_
    refine am_callV (cvj := am_ci) (mtj := mX10_of) (dj := 0) (nj := 2) (rcj := 0) (rsj := 0) (rc' := 0) (rs' := 0) (ci := 10) (st' := fun a9 => (am_I a9 :: [am_I x6])) ⟨_, rfl, rfl⟩ [am_I l2, am_I (4 : Int32)] [am_I x6] dX10_reads_64 okX10_of lk_RX10_99 (fun zA zH zE => txX10_of l0 l2 (4 : Int32) h8 zA zH zE) rfl (fun _ => rfl) (by decide) rfl (Nat.le_of_ble_eq_true rfl) (by decide) (by decide) (fun r9 h10 => ?_)
    refine am_icmp_eq (tgt := 72) dX10_reads_67 (by decide) (fun c11 => ?_) (fun c11 => ?_)
    · exact am_weak (sxX10_reads_b72 (fxX10_reads_b24 n) ih l0 l1 l2 h10) ⟨rfl, ⟨rfl, ⟨rfl, trivial⟩⟩⟩ (Nat.le_refl _) (Nat.le_refl _)
    refine am_iload_n dX10_reads_70 rfl ?_
    exact am_iret dX10_reads_71 rfl rfl
def fxX10_reads (l0 : Option Nat) (l1 : Int32) (h : am_H) : Option (Int32 × am_H) := am_bd (fxX10_isSheet l1 h) (fun r1 h2 => if r1 = 0 then (some ((-1000000001 : Int32), h2)) else (am_gd (am_ob h2 l0 10) (am_gd (am_ix h2 (am_gr h2 l0 26) 0 l1) (if 0 ≤ (am_gi h2 (am_gr h2 l0 26) l1.toNatClampNeg) then (am_lt (0 : Int32) (fun x3 => fxX10_reads_b24 am_F l0 l1 x3 h2)) else (some ((-1000000011 : Int32), h2))))))
set_option maxRecDepth 100000 in
theorem sxX10_reads {xs : List Int32} (l0 : Option Nat) (l1 : Int32) (h : am_H) : am_Sm xs am_ci mX10_reads 2 0 0 0 [some (am_R l0), some (am_I l1), none, none] [] h (fxX10_reads l0 l1 h) := by
  unfold fxX10_reads
  refine am_iload_n dX10_reads_0 rfl ?_
  refine am_callS (cvj := am_ci) (mtj := mX10_isSheet) (dj := 1) (nj := 1) (rcj := 0) (rsj := 0) (rc' := 0) (rs' := 0) (st' := fun a9 => (am_I a9 :: [])) [am_I l1] [] dX10_reads_1 okX10_isSheet lk_RX10_167 (fun zA zH zE => txX10_isSheet l1 h zA zH zE) rfl (fun _ => rfl) (by decide) rfl (Nat.le_of_ble_eq_true rfl) (by decide) (by decide) (fun r1 h2 => ?_)
  refine am_if_ne (tgt := 10) dX10_reads_4 (by decide) (fun c5 => ?_) (fun c5 => ?_)
  · refine am_aload_n dX10_reads_10 rfl ?_
    refine am_getR dX10_reads_11 fk_RX10_57 rfl ?_
    refine am_iload_n dX10_reads_14 rfl ?_
    refine am_iald dX10_reads_15 ?_
    refine am_if_ge (tgt := 22) dX10_reads_16 (by decide) (fun c4 => ?_) (fun c4 => ?_)
    · refine am_iconst (v := 0) dX10_reads_22 (by decide) ?_
      refine am_istore_n (LL := fun y9 => [some (am_R l0), some (am_I l1), some (am_I y9), none]) dX10_reads_23 (by decide) (fun _ => rfl) (fun x3 => ?_)
      exact am_weak (sxX10_reads_b24 am_F l0 l1 x3 h2) ⟨rfl, ⟨rfl, ⟨rfl, trivial⟩⟩⟩ (Nat.le_refl _) (Nat.le_refl _)
    refine am_ldc (v := (-1000000011)) dX10_reads_19 wd1194 ?_
    exact am_iret dX10_reads_21 rfl rfl
  refine am_ldc (v := (-1000000001)) dX10_reads_7 wd1060 ?_
  exact am_iret dX10_reads_9 rfl rfl
theorem txX10_reads {xs : List Int32} (l0 : Option Nat) (l1 : Int32) (h : am_H) (a : Int32) (h2 : am_H) (e : fxX10_reads l0 l1 h = some (a, h2)) : am_Ct xs mX10_reads 2 0 0 [am_R l0, am_I l1] h (fun v h3 => v = am_ci a ∧ h3 = h2) := am_meth okX10_reads (Nat.le_of_ble_eq_true rfl) rfl (sxX10_reads l0 l1 h) e
theorem dX10_copy_0 : am_at cX10_copy 0 (.iload_n 1) 1 1 := by decide +kernel
theorem dX10_copy_1 : am_at cX10_copy 1 (.invokestatic 167) 3 4 := by decide +kernel
theorem dX10_copy_4 : am_at cX10_copy 4 (.ifCond .eq 10) 3 7 := by decide +kernel
theorem dX10_copy_7 : am_at cX10_copy 7 (.iload_n 3) 1 8 := by decide +kernel
theorem dX10_copy_8 : am_at cX10_copy 8 (.invokestatic 167) 3 11 := by decide +kernel
theorem dX10_copy_11 : am_at cX10_copy 11 (.ifCond .ne 6) 3 14 := by decide +kernel
theorem dX10_copy_14 : am_at cX10_copy 14 (.ldc 93) 2 16 := by decide +kernel
theorem dX10_copy_16 : am_at cX10_copy 16 (.ireturn) 1 17 := by decide +kernel
theorem dX10_copy_17 : am_at cX10_copy 17 (.aload_n 0) 1 18 := by decide +kernel
theorem dX10_copy_18 : am_at cX10_copy 18 (.getfield 57) 3 21 := by decide +kernel
theorem dX10_copy_21 : am_at cX10_copy 21 (.iload_n 1) 1 22 := by decide +kernel
theorem dX10_copy_22 : am_at cX10_copy 22 (.iaload) 1 23 := by decide +kernel
theorem dX10_copy_23 : am_at cX10_copy 23 (.ifCond .lt 12) 3 26 := by decide +kernel
theorem dX10_copy_26 : am_at cX10_copy 26 (.aload_n 0) 1 27 := by decide +kernel
theorem dX10_copy_27 : am_at cX10_copy 27 (.getfield 57) 3 30 := by decide +kernel
theorem dX10_copy_30 : am_at cX10_copy 30 (.iload_n 3) 1 31 := by decide +kernel
theorem dX10_copy_31 : am_at cX10_copy 31 (.iaload) 1 32 := by decide +kernel
theorem dX10_copy_32 : am_at cX10_copy 32 (.ifCond .ge 6) 3 35 := by decide +kernel
theorem dX10_copy_35 : am_at cX10_copy 35 (.ldc 170) 2 37 := by decide +kernel
theorem dX10_copy_37 : am_at cX10_copy 37 (.ireturn) 1 38 := by decide +kernel
theorem dX10_copy_38 : am_at cX10_copy 38 (.aload_n 0) 1 39 := by decide +kernel
theorem dX10_copy_39 : am_at cX10_copy 39 (.getfield 57) 3 42 := by decide +kernel
theorem dX10_copy_42 : am_at cX10_copy 42 (.iload_n 1) 1 43 := by decide +kernel
theorem dX10_copy_43 : am_at cX10_copy 43 (.iaload) 1 44 := by decide +kernel
theorem dX10_copy_44 : am_at cX10_copy 44 (.aload_n 0) 1 45 := by decide +kernel
theorem dX10_copy_45 : am_at cX10_copy 45 (.getfield 57) 3 48 := by decide +kernel
theorem dX10_copy_48 : am_at cX10_copy 48 (.iload_n 3) 1 49 := by decide +kernel
theorem dX10_copy_49 : am_at cX10_copy 49 (.iaload) 1 50 := by decide +kernel
theorem dX10_copy_50 : am_at cX10_copy 50 (.if_icmp .eq 6) 3 53 := by decide +kernel
theorem dX10_copy_53 : am_at cX10_copy 53 (.ldc 115) 2 55 := by decide +kernel
theorem dX10_copy_55 : am_at cX10_copy 55 (.ireturn) 1 56 := by decide +kernel
theorem dX10_copy_56 : am_at cX10_copy 56 (.iload_n 2) 1 57 := by decide +kernel
theorem dX10_copy_57 : am_at cX10_copy 57 (.ifCond .lt 40) 3 60 := by decide +kernel
theorem dX10_copy_60 : am_at cX10_copy 60 (.iload 4) 2 62 := by decide +kernel
theorem dX10_copy_62 : am_at cX10_copy 62 (.ifCond .lt 35) 3 65 := by decide +kernel
theorem dX10_copy_65 : am_at cX10_copy 65 (.iload 5) 2 67 := by decide +kernel
theorem dX10_copy_67 : am_at cX10_copy 67 (.ifCond .lt 30) 3 70 := by decide +kernel
theorem dX10_copy_70 : am_at cX10_copy 70 (.iload_n 2) 1 71 := by decide +kernel
theorem dX10_copy_71 : am_at cX10_copy 71 (.aload_n 0) 1 72 := by decide +kernel
theorem dX10_copy_72 : am_at cX10_copy 72 (.getfield 60) 3 75 := by decide +kernel
theorem dX10_copy_75 : am_at cX10_copy 75 (.iload_n 1) 1 76 := by decide +kernel
theorem dX10_copy_76 : am_at cX10_copy 76 (.iaload) 1 77 := by decide +kernel
theorem dX10_copy_77 : am_at cX10_copy 77 (.iload 5) 2 79 := by decide +kernel
theorem dX10_copy_79 : am_at cX10_copy 79 (.isub) 1 80 := by decide +kernel
theorem dX10_copy_80 : am_at cX10_copy 80 (.if_icmp .gt 17) 3 83 := by decide +kernel
theorem dX10_copy_83 : am_at cX10_copy 83 (.iload 4) 2 85 := by decide +kernel
theorem dX10_copy_85 : am_at cX10_copy 85 (.aload_n 0) 1 86 := by decide +kernel
theorem dX10_copy_86 : am_at cX10_copy 86 (.getfield 60) 3 89 := by decide +kernel
theorem dX10_copy_89 : am_at cX10_copy 89 (.iload_n 3) 1 90 := by decide +kernel
theorem dX10_copy_90 : am_at cX10_copy 90 (.iaload) 1 91 := by decide +kernel
theorem dX10_copy_91 : am_at cX10_copy 91 (.iload 5) 2 93 := by decide +kernel
theorem dX10_copy_93 : am_at cX10_copy 93 (.isub) 1 94 := by decide +kernel
theorem dX10_copy_94 : am_at cX10_copy 94 (.if_icmp .le 7) 3 97 := by decide +kernel
theorem dX10_copy_97 : am_at cX10_copy 97 (.ldc_w 283) 3 100 := by decide +kernel
theorem dX10_copy_100 : am_at cX10_copy 100 (.ireturn) 1 101 := by decide +kernel
theorem dX10_copy_101 : am_at cX10_copy 101 (.iconst 0) 1 102 := by decide +kernel
theorem dX10_copy_102 : am_at cX10_copy 102 (.istore 6) 2 104 := by decide +kernel
theorem dX10_copy_104 : am_at cX10_copy 104 (.iload 6) 2 106 := by decide +kernel
theorem dX10_copy_106 : am_at cX10_copy 106 (.iload 5) 2 108 := by decide +kernel
theorem dX10_copy_108 : am_at cX10_copy 108 (.if_icmp .ge 30) 3 111 := by decide +kernel
theorem dX10_copy_111 : am_at cX10_copy 111 (.aload_n 0) 1 112 := by decide +kernel
theorem dX10_copy_112 : am_at cX10_copy 112 (.getfield 78) 3 115 := by decide +kernel
theorem dX10_copy_115 : am_at cX10_copy 115 (.iload 6) 2 117 := by decide +kernel
theorem dX10_copy_117 : am_at cX10_copy 117 (.aload_n 0) 1 118 := by decide +kernel
theorem dX10_copy_118 : am_at cX10_copy 118 (.getfield 63) 3 121 := by decide +kernel
theorem dX10_copy_121 : am_at cX10_copy 121 (.bipush 24) 2 123 := by decide +kernel
theorem dX10_copy_123 : am_at cX10_copy 123 (.iload_n 1) 1 124 := by decide +kernel
theorem dX10_copy_124 : am_at cX10_copy 124 (.imul) 1 125 := by decide +kernel
theorem dX10_copy_125 : am_at cX10_copy 125 (.iload_n 2) 1 126 := by decide +kernel
theorem dX10_copy_126 : am_at cX10_copy 126 (.iadd) 1 127 := by decide +kernel
theorem dX10_copy_127 : am_at cX10_copy 127 (.iload 6) 2 129 := by decide +kernel
theorem dX10_copy_129 : am_at cX10_copy 129 (.iadd) 1 130 := by decide +kernel
theorem dX10_copy_130 : am_at cX10_copy 130 (.iaload) 1 131 := by decide +kernel
theorem dX10_copy_131 : am_at cX10_copy 131 (.iastore) 1 132 := by decide +kernel
theorem dX10_copy_132 : am_at cX10_copy 132 (.iinc 6 1) 3 135 := by decide +kernel
theorem dX10_copy_135 : am_at cX10_copy 135 (.goto (-31)) 3 138 := by decide +kernel
theorem dX10_copy_138 : am_at cX10_copy 138 (.iconst 0) 1 139 := by decide +kernel
theorem dX10_copy_139 : am_at cX10_copy 139 (.istore 6) 2 141 := by decide +kernel
theorem dX10_copy_141 : am_at cX10_copy 141 (.iload 6) 2 143 := by decide +kernel
theorem dX10_copy_143 : am_at cX10_copy 143 (.iload 5) 2 145 := by decide +kernel
theorem dX10_copy_145 : am_at cX10_copy 145 (.if_icmp .ge 31) 3 148 := by decide +kernel
theorem dX10_copy_148 : am_at cX10_copy 148 (.aload_n 0) 1 149 := by decide +kernel
theorem dX10_copy_149 : am_at cX10_copy 149 (.getfield 63) 3 152 := by decide +kernel
theorem dX10_copy_152 : am_at cX10_copy 152 (.bipush 24) 2 154 := by decide +kernel
theorem dX10_copy_154 : am_at cX10_copy 154 (.iload_n 3) 1 155 := by decide +kernel
theorem dX10_copy_155 : am_at cX10_copy 155 (.imul) 1 156 := by decide +kernel
theorem dX10_copy_156 : am_at cX10_copy 156 (.iload 4) 2 158 := by decide +kernel
theorem dX10_copy_158 : am_at cX10_copy 158 (.iadd) 1 159 := by decide +kernel
theorem dX10_copy_159 : am_at cX10_copy 159 (.iload 6) 2 161 := by decide +kernel
theorem dX10_copy_161 : am_at cX10_copy 161 (.iadd) 1 162 := by decide +kernel
theorem dX10_copy_162 : am_at cX10_copy 162 (.aload_n 0) 1 163 := by decide +kernel
theorem dX10_copy_163 : am_at cX10_copy 163 (.getfield 78) 3 166 := by decide +kernel
theorem dX10_copy_166 : am_at cX10_copy 166 (.iload 6) 2 168 := by decide +kernel
theorem dX10_copy_168 : am_at cX10_copy 168 (.iaload) 1 169 := by decide +kernel
theorem dX10_copy_169 : am_at cX10_copy 169 (.iastore) 1 170 := by decide +kernel
theorem dX10_copy_170 : am_at cX10_copy 170 (.iinc 6 1) 3 173 := by decide +kernel
theorem dX10_copy_173 : am_at cX10_copy 173 (.goto (-32)) 3 176 := by decide +kernel
theorem dX10_copy_176 : am_at cX10_copy 176 (.iload 5) 2 178 := by decide +kernel
theorem dX10_copy_178 : am_at cX10_copy 178 (.ireturn) 1 179 := by decide +kernel
def fxX10_copy_b141 : Nat → Option Nat → Int32 → Int32 → Int32 → Int32 → am_H → Option (Int32 × am_H)
  | 0, _, _, _, _, _, _ => none
  | n + 1, l0, l3, l4, l5, l6, h => if l5 ≤ l6 then (some (l5, h)) else (am_gd (am_ob h l0 10) (am_gd (am_ob h l0 10) (am_gd (am_ix h (am_gr h l0 33) 0 l6) (am_gd (am_ix h (am_gr h l0 28) 0 ((((24 : Int32) * l3) + l4) + l6)) (am_lt (am_si h (am_gr h l0 28) ((((24 : Int32) * l3) + l4) + l6).toNatClampNeg (am_gi h (am_gr h l0 33) l6.toNatClampNeg)) (fun h20 => am_lt (l6 + 1) (fun x21 => fxX10_copy_b141 n l0 l3 l4 l5 x21 h20)))))))
set_option maxRecDepth 100000 in
theorem sxX10_copy_b141 {xs : List Int32} : ∀ (n : Nat) (l0 : Option Nat) (l3 : Int32) (l4 : Int32) (l5 : Int32) (l6 : Int32) (h : am_H), am_Sm xs am_ci mX10_copy 2 0 0 141 [some (am_R l0), none, none, some (am_I l3), some (am_I l4), some (am_I l5), some (am_I l6)] [] h (fxX10_copy_b141 n l0 l3 l4 l5 l6 h) := by
  intro n
  induction n with
  | zero => intros; exact am_none
  | succ n ih =>
    intro l0 l3 l4 l5 l6 h
    rw [fxX10_copy_b141]
    refine am_iload dX10_copy_141 rfl ?_
    refine am_iload dX10_copy_143 rfl ?_
    refine am_icmp_ge (tgt := 176) dX10_copy_145 (by decide) (fun c22 => ?_) (fun c22 => ?_)
    · refine am_iload dX10_copy_176 rfl ?_
      exact am_iret dX10_copy_178 rfl rfl
    refine am_aload_n dX10_copy_148 rfl ?_
    refine am_getR dX10_copy_149 fk_RX10_63 rfl ?_
    refine am_bipush (v := 24) dX10_copy_152 (by decide) ?_
    refine am_iload_n dX10_copy_154 rfl ?_
    refine am_imul dX10_copy_155 ?_
    refine am_iload dX10_copy_156 rfl ?_
    refine am_iadd dX10_copy_158 ?_
    refine am_iload dX10_copy_159 rfl ?_
    refine am_iadd dX10_copy_161 ?_
    refine am_aload_n dX10_copy_162 rfl ?_
    refine am_getR dX10_copy_163 fk_RX10_78 rfl ?_
    refine am_iload dX10_copy_166 rfl ?_
    refine am_iald dX10_copy_168 ?_
    refine am_iast dX10_copy_169 (fun h20 => ?_)
    refine am_iinc (v := 1) (LL := fun y9 => [some (am_R l0), none, none, some (am_I l3), some (am_I l4), some (am_I l5), some (am_I y9)]) dX10_copy_170 (by decide) rfl (by decide) (fun _ => rfl) (fun x21 => ?_)
    refine am_goto (tgt := 141) dX10_copy_173 (by decide) ?_
    exact am_weak (ih l0 l3 l4 l5 x21 h20) ⟨rfl, ⟨rfl, ⟨rfl, ⟨rfl, ⟨rfl, trivial⟩⟩⟩⟩⟩ (Nat.le_refl _) (Nat.le_refl _)
def fxX10_copy_b104 : Nat → Option Nat → Int32 → Int32 → Int32 → Int32 → Int32 → Int32 → am_H → Option (Int32 × am_H)
  | 0, _, _, _, _, _, _, _, _ => none
  | n + 1, l0, l1, l2, l3, l4, l5, l6, h => if l5 ≤ l6 then (am_lt (0 : Int32) (fun x16 => fxX10_copy_b141 am_F l0 l3 l4 l5 x16 h)) else (am_gd (am_ob h l0 10) (am_gd (am_ob h l0 10) (am_gd (am_ix h (am_gr h l0 28) 0 ((((24 : Int32) * l1) + l2) + l6)) (am_gd (am_ix h (am_gr h l0 33) 0 l6) (am_lt (am_si h (am_gr h l0 33) l6.toNatClampNeg (am_gi h (am_gr h l0 28) ((((24 : Int32) * l1) + l2) + l6).toNatClampNeg)) (fun h17 => am_lt (l6 + 1) (fun x18 => fxX10_copy_b104 n l0 l1 l2 l3 l4 l5 x18 h17)))))))
set_option maxRecDepth 100000 in
theorem sxX10_copy_b104 {xs : List Int32} : ∀ (n : Nat) (l0 : Option Nat) (l1 : Int32) (l2 : Int32) (l3 : Int32) (l4 : Int32) (l5 : Int32) (l6 : Int32) (h : am_H), am_Sm xs am_ci mX10_copy 2 0 0 104 [some (am_R l0), some (am_I l1), some (am_I l2), some (am_I l3), some (am_I l4), some (am_I l5), some (am_I l6)] [] h (fxX10_copy_b104 n l0 l1 l2 l3 l4 l5 l6 h) := by
  intro n
  induction n with
  | zero => intros; exact am_none
  | succ n ih =>
    intro l0 l1 l2 l3 l4 l5 l6 h
    rw [fxX10_copy_b104]
    refine am_iload dX10_copy_104 rfl ?_
    refine am_iload dX10_copy_106 rfl ?_
    refine am_icmp_ge (tgt := 138) dX10_copy_108 (by decide) (fun c19 => ?_) (fun c19 => ?_)
    · refine am_iconst (v := 0) dX10_copy_138 (by decide) ?_
      refine am_istore (LL := fun y9 => [some (am_R l0), some (am_I l1), some (am_I l2), some (am_I l3), some (am_I l4), some (am_I l5), some (am_I y9)]) dX10_copy_139 (by decide) (fun _ => rfl) (fun x16 => ?_)
      exact am_weak (sxX10_copy_b141 am_F l0 l3 l4 l5 x16 h) ⟨rfl, ⟨rfl, ⟨rfl, ⟨rfl, ⟨rfl, trivial⟩⟩⟩⟩⟩ (Nat.le_refl _) (Nat.le_refl _)
    refine am_aload_n dX10_copy_111 rfl ?_
    refine am_getR dX10_copy_112 fk_RX10_78 rfl ?_
    refine am_iload dX10_copy_115 rfl ?_
    refine am_aload_n dX10_copy_117 rfl ?_
    refine am_getR dX10_copy_118 fk_RX10_63 rfl ?_
    refine am_bipush (v := 24) dX10_copy_121 (by decide) ?_
    refine am_iload_n dX10_copy_123 rfl ?_
    refine am_imul dX10_copy_124 ?_
    refine am_iload_n dX10_copy_125 rfl ?_
    refine am_iadd dX10_copy_126 ?_
    refine am_iload dX10_copy_127 rfl ?_
    refine am_iadd dX10_copy_129 ?_
    refine am_iald dX10_copy_130 ?_
    refine am_iast dX10_copy_131 (fun h17 => ?_)
    refine am_iinc (v := 1) (LL := fun y9 => [some (am_R l0), some (am_I l1), some (am_I l2), some (am_I l3), some (am_I l4), some (am_I l5), some (am_I y9)]) dX10_copy_132 (by decide) rfl (by decide) (fun _ => rfl) (fun x18 => ?_)
    refine am_goto (tgt := 104) dX10_copy_135 (by decide) ?_
    exact am_weak (ih l0 l1 l2 l3 l4 l5 x18 h17) ⟨rfl, ⟨rfl, ⟨rfl, ⟨rfl, ⟨rfl, ⟨rfl, ⟨rfl, trivial⟩⟩⟩⟩⟩⟩⟩ (Nat.le_refl _) (Nat.le_refl _)
def fxX10_copy (l0 : Option Nat) (l1 : Int32) (l2 : Int32) (l3 : Int32) (l4 : Int32) (l5 : Int32) (h : am_H) : Option (Int32 × am_H) := am_bd (fxX10_isSheet l1 h) (fun r1 h2 => if r1 = 0 then (some ((-1000000001 : Int32), h2)) else (am_bd (fxX10_isSheet l3 h2) (fun r3 h4 => if r3 = 0 then (some ((-1000000001 : Int32), h4)) else (am_gd (am_ob h4 l0 10) (am_gd (am_ix h4 (am_gr h4 l0 26) 0 l1) (if (am_gi h4 (am_gr h4 l0 26) l1.toNatClampNeg) < 0 then (some ((-1000000011 : Int32), h4)) else (am_gd (am_ob h4 l0 10) (am_gd (am_ix h4 (am_gr h4 l0 26) 0 l3) (if 0 ≤ (am_gi h4 (am_gr h4 l0 26) l3.toNatClampNeg) then (am_gd (am_ob h4 l0 10) (am_gd (am_ix h4 (am_gr h4 l0 26) 0 l1) (am_gd (am_ob h4 l0 10) (am_gd (am_ix h4 (am_gr h4 l0 26) 0 l3) (if (am_gi h4 (am_gr h4 l0 26) l1.toNatClampNeg) = (am_gi h4 (am_gr h4 l0 26) l3.toNatClampNeg) then (if l2 < 0 then (some ((-1000000013 : Int32), h4)) else (if l4 < 0 then (some ((-1000000013 : Int32), h4)) else (if l5 < 0 then (some ((-1000000013 : Int32), h4)) else (am_gd (am_ob h4 l0 10) (am_gd (am_ix h4 (am_gr h4 l0 27) 0 l1) (if ((am_gi h4 (am_gr h4 l0 27) l1.toNatClampNeg) - l5) < l2 then (some ((-1000000013 : Int32), h4)) else (am_gd (am_ob h4 l0 10) (am_gd (am_ix h4 (am_gr h4 l0 27) 0 l3) (if l4 ≤ ((am_gi h4 (am_gr h4 l0 27) l3.toNatClampNeg) - l5) then (am_lt (0 : Int32) (fun x5 => fxX10_copy_b104 am_F l0 l1 l2 l3 l4 l5 x5 h4)) else (some ((-1000000013 : Int32), h4))))))))))) else (some ((-1000000012 : Int32), h4))))))) else (some ((-1000000011 : Int32), h4)))))))))))
set_option maxRecDepth 100000 in
theorem sxX10_copy {xs : List Int32} (l0 : Option Nat) (l1 : Int32) (l2 : Int32) (l3 : Int32) (l4 : Int32) (l5 : Int32) (h : am_H) : am_Sm xs am_ci mX10_copy 2 0 0 0 [some (am_R l0), some (am_I l1), some (am_I l2), some (am_I l3), some (am_I l4), some (am_I l5), none] [] h (fxX10_copy l0 l1 l2 l3 l4 l5 h) := by
  unfold fxX10_copy
  refine am_iload_n dX10_copy_0 rfl ?_
  refine am_callS (cvj := am_ci) (mtj := mX10_isSheet) (dj := 1) (nj := 1) (rcj := 0) (rsj := 0) (rc' := 0) (rs' := 0) (st' := fun a9 => (am_I a9 :: [])) [am_I l1] [] dX10_copy_1 okX10_isSheet lk_RX10_167 (fun zA zH zE => txX10_isSheet l1 h zA zH zE) rfl (fun _ => rfl) (by decide) rfl (Nat.le_of_ble_eq_true rfl) (by decide) (by decide) (fun r1 h2 => ?_)
  refine am_if_eq (tgt := 14) dX10_copy_4 (by decide) (fun c15 => ?_) (fun c15 => ?_)
  · refine am_ldc (v := (-1000000001)) dX10_copy_14 wd1060 ?_
    exact am_iret dX10_copy_16 rfl rfl
  refine am_iload_n dX10_copy_7 rfl ?_
  refine am_callS (cvj := am_ci) (mtj := mX10_isSheet) (dj := 1) (nj := 1) (rcj := 0) (rsj := 0) (rc' := 0) (rs' := 0) (st' := fun a9 => (am_I a9 :: [])) [am_I l3] [] dX10_copy_8 okX10_isSheet lk_RX10_167 (fun zA zH zE => txX10_isSheet l3 h2 zA zH zE) rfl (fun _ => rfl) (by decide) rfl (Nat.le_of_ble_eq_true rfl) (by decide) (by decide) (fun r3 h4 => ?_)
  refine am_if_ne (tgt := 17) dX10_copy_11 (by decide) (fun c14 => ?_) (fun c14 => ?_)
  · refine am_aload_n dX10_copy_17 rfl ?_
    refine am_getR dX10_copy_18 fk_RX10_57 rfl ?_
    refine am_iload_n dX10_copy_21 rfl ?_
    refine am_iald dX10_copy_22 ?_
    refine am_if_lt (tgt := 35) dX10_copy_23 (by decide) (fun c13 => ?_) (fun c13 => ?_)
    · refine am_ldc (v := (-1000000011)) dX10_copy_35 wd1194 ?_
      exact am_iret dX10_copy_37 rfl rfl
    refine am_aload_n dX10_copy_26 rfl ?_
    refine am_getR dX10_copy_27 fk_RX10_57 rfl ?_
    refine am_iload_n dX10_copy_30 rfl ?_
    refine am_iald dX10_copy_31 ?_
    refine am_if_ge (tgt := 38) dX10_copy_32 (by decide) (fun c12 => ?_) (fun c12 => ?_)
    · refine am_aload_n dX10_copy_38 rfl ?_
      refine am_getR dX10_copy_39 fk_RX10_57 rfl ?_
      refine am_iload_n dX10_copy_42 rfl ?_
      refine am_iald dX10_copy_43 ?_
      refine am_aload_n dX10_copy_44 rfl ?_
      refine am_getR dX10_copy_45 fk_RX10_57 rfl ?_
      refine am_iload_n dX10_copy_48 rfl ?_
      refine am_iald dX10_copy_49 ?_
      refine am_icmp_eq (tgt := 56) dX10_copy_50 (by decide) (fun c11 => ?_) (fun c11 => ?_)
      · refine am_iload_n dX10_copy_56 rfl ?_
        refine am_if_lt (tgt := 97) dX10_copy_57 (by decide) (fun c10 => ?_) (fun c10 => ?_)
        · refine am_ldcw (v := (-1000000013)) dX10_copy_97 wd1367 ?_
          exact am_iret dX10_copy_100 rfl rfl
        refine am_iload dX10_copy_60 rfl ?_
        refine am_if_lt (tgt := 97) dX10_copy_62 (by decide) (fun c9 => ?_) (fun c9 => ?_)
        · refine am_ldcw (v := (-1000000013)) dX10_copy_97 wd1367 ?_
          exact am_iret dX10_copy_100 rfl rfl
        refine am_iload dX10_copy_65 rfl ?_
        refine am_if_lt (tgt := 97) dX10_copy_67 (by decide) (fun c8 => ?_) (fun c8 => ?_)
        · refine am_ldcw (v := (-1000000013)) dX10_copy_97 wd1367 ?_
          exact am_iret dX10_copy_100 rfl rfl
        refine am_iload_n dX10_copy_70 rfl ?_
        refine am_aload_n dX10_copy_71 rfl ?_
        refine am_getR dX10_copy_72 fk_RX10_60 rfl ?_
        refine am_iload_n dX10_copy_75 rfl ?_
        refine am_iald dX10_copy_76 ?_
        refine am_iload dX10_copy_77 rfl ?_
        refine am_isub dX10_copy_79 ?_
        refine am_icmp_gt (tgt := 97) dX10_copy_80 (by decide) (fun c7 => ?_) (fun c7 => ?_)
        · refine am_ldcw (v := (-1000000013)) dX10_copy_97 wd1367 ?_
          exact am_iret dX10_copy_100 rfl rfl
        refine am_iload dX10_copy_83 rfl ?_
        refine am_aload_n dX10_copy_85 rfl ?_
        refine am_getR dX10_copy_86 fk_RX10_60 rfl ?_
        refine am_iload_n dX10_copy_89 rfl ?_
        refine am_iald dX10_copy_90 ?_
        refine am_iload dX10_copy_91 rfl ?_
        refine am_isub dX10_copy_93 ?_
        refine am_icmp_le (tgt := 101) dX10_copy_94 (by decide) (fun c6 => ?_) (fun c6 => ?_)
        · refine am_iconst (v := 0) dX10_copy_101 (by decide) ?_
          refine am_istore (LL := fun y9 => [some (am_R l0), some (am_I l1), some (am_I l2), some (am_I l3), some (am_I l4), some (am_I l5), some (am_I y9)]) dX10_copy_102 (by decide) (fun _ => rfl) (fun x5 => ?_)
          exact am_weak (sxX10_copy_b104 am_F l0 l1 l2 l3 l4 l5 x5 h4) ⟨rfl, ⟨rfl, ⟨rfl, ⟨rfl, ⟨rfl, ⟨rfl, ⟨rfl, trivial⟩⟩⟩⟩⟩⟩⟩ (Nat.le_refl _) (Nat.le_refl _)
        refine am_ldcw (v := (-1000000013)) dX10_copy_97 wd1367 ?_
        exact am_iret dX10_copy_100 rfl rfl
      refine am_ldc (v := (-1000000012)) dX10_copy_53 wd1093 ?_
      exact am_iret dX10_copy_55 rfl rfl
    refine am_ldc (v := (-1000000011)) dX10_copy_35 wd1194 ?_
    exact am_iret dX10_copy_37 rfl rfl
  refine am_ldc (v := (-1000000001)) dX10_copy_14 wd1060 ?_
  exact am_iret dX10_copy_16 rfl rfl
theorem txX10_copy {xs : List Int32} (l0 : Option Nat) (l1 : Int32) (l2 : Int32) (l3 : Int32) (l4 : Int32) (l5 : Int32) (h : am_H) (a : Int32) (h2 : am_H) (e : fxX10_copy l0 l1 l2 l3 l4 l5 h = some (a, h2)) : am_Ct xs mX10_copy 2 0 0 [am_R l0, am_I l1, am_I l2, am_I l3, am_I l4, am_I l5] h (fun v h3 => v = am_ci a ∧ h3 = h2) := am_meth okX10_copy (Nat.le_of_ble_eq_true rfl) rfl (sxX10_copy l0 l1 l2 l3 l4 l5 h) e
theorem dX10_lay_0 : am_at cX10_lay 0 (.iload_n 1) 1 1 := by decide +kernel
theorem dX10_lay_1 : am_at cX10_lay 1 (.invokestatic 286) 3 4 := by decide +kernel
theorem dX10_lay_4 : am_at cX10_lay 4 (.ifCond .eq 37) 3 7 := by decide +kernel
theorem dX10_lay_7 : am_at cX10_lay 7 (.iload_n 2) 1 8 := by decide +kernel
theorem dX10_lay_8 : am_at cX10_lay 8 (.iconst 0) 1 9 := by decide +kernel
theorem dX10_lay_9 : am_at cX10_lay 9 (.iconst 3) 1 10 := by decide +kernel
theorem dX10_lay_10 : am_at cX10_lay 10 (.invokestatic 85) 3 13 := by decide +kernel
theorem dX10_lay_13 : am_at cX10_lay 13 (.ifCond .eq 28) 3 16 := by decide +kernel
theorem dX10_lay_16 : am_at cX10_lay 16 (.iload_n 2) 1 17 := by decide +kernel
theorem dX10_lay_17 : am_at cX10_lay 17 (.iconst 1) 1 18 := by decide +kernel
theorem dX10_lay_18 : am_at cX10_lay 18 (.if_icmp .ne 11) 3 21 := by decide +kernel
theorem dX10_lay_21 : am_at cX10_lay 21 (.aload_n 0) 1 22 := by decide +kernel
theorem dX10_lay_22 : am_at cX10_lay 22 (.iload_n 3) 1 23 := by decide +kernel
theorem dX10_lay_23 : am_at cX10_lay 23 (.invokevirtual 103) 3 26 := by decide +kernel
theorem dX10_lay_26 : am_at cX10_lay 26 (.ifCond .eq 15) 3 29 := by decide +kernel
theorem dX10_lay_29 : am_at cX10_lay 29 (.iload_n 2) 1 30 := by decide +kernel
theorem dX10_lay_30 : am_at cX10_lay 30 (.iconst 2) 1 31 := by decide +kernel
theorem dX10_lay_31 : am_at cX10_lay 31 (.if_icmp .ne 13) 3 34 := by decide +kernel
theorem dX10_lay_34 : am_at cX10_lay 34 (.iload_n 3) 1 35 := by decide +kernel
theorem dX10_lay_35 : am_at cX10_lay 35 (.invokestatic 167) 3 38 := by decide +kernel
theorem dX10_lay_38 : am_at cX10_lay 38 (.ifCond .ne 6) 3 41 := by decide +kernel
theorem dX10_lay_41 : am_at cX10_lay 41 (.ldc 93) 2 43 := by decide +kernel
theorem dX10_lay_43 : am_at cX10_lay 43 (.ireturn) 1 44 := by decide +kernel
theorem dX10_lay_44 : am_at cX10_lay 44 (.iload_n 2) 1 45 := by decide +kernel
theorem dX10_lay_45 : am_at cX10_lay 45 (.iconst 2) 1 46 := by decide +kernel
theorem dX10_lay_46 : am_at cX10_lay 46 (.if_icmp .ne 15) 3 49 := by decide +kernel
theorem dX10_lay_49 : am_at cX10_lay 49 (.aload_n 0) 1 50 := by decide +kernel
theorem dX10_lay_50 : am_at cX10_lay 50 (.getfield 57) 3 53 := by decide +kernel
theorem dX10_lay_53 : am_at cX10_lay 53 (.iload_n 3) 1 54 := by decide +kernel
theorem dX10_lay_54 : am_at cX10_lay 54 (.iaload) 1 55 := by decide +kernel
theorem dX10_lay_55 : am_at cX10_lay 55 (.ifCond .ge 6) 3 58 := by decide +kernel
theorem dX10_lay_58 : am_at cX10_lay 58 (.ldc 170) 2 60 := by decide +kernel
theorem dX10_lay_60 : am_at cX10_lay 60 (.ireturn) 1 61 := by decide +kernel
theorem dX10_lay_61 : am_at cX10_lay 61 (.aload_n 0) 1 62 := by decide +kernel
theorem dX10_lay_62 : am_at cX10_lay 62 (.getfield 66) 3 65 := by decide +kernel
theorem dX10_lay_65 : am_at cX10_lay 65 (.iload_n 1) 1 66 := by decide +kernel
theorem dX10_lay_66 : am_at cX10_lay 66 (.iaload) 1 67 := by decide +kernel
theorem dX10_lay_67 : am_at cX10_lay 67 (.istore 4) 2 69 := by decide +kernel
theorem dX10_lay_69 : am_at cX10_lay 69 (.aload_n 0) 1 70 := by decide +kernel
theorem dX10_lay_70 : am_at cX10_lay 70 (.getfield 66) 3 73 := by decide +kernel
theorem dX10_lay_73 : am_at cX10_lay 73 (.iload_n 1) 1 74 := by decide +kernel
theorem dX10_lay_74 : am_at cX10_lay 74 (.iload_n 2) 1 75 := by decide +kernel
theorem dX10_lay_75 : am_at cX10_lay 75 (.iastore) 1 76 := by decide +kernel
theorem dX10_lay_76 : am_at cX10_lay 76 (.aload_n 0) 1 77 := by decide +kernel
theorem dX10_lay_77 : am_at cX10_lay 77 (.getfield 69) 3 80 := by decide +kernel
theorem dX10_lay_80 : am_at cX10_lay 80 (.iload_n 1) 1 81 := by decide +kernel
theorem dX10_lay_81 : am_at cX10_lay 81 (.iload_n 2) 1 82 := by decide +kernel
theorem dX10_lay_82 : am_at cX10_lay 82 (.iconst 1) 1 83 := by decide +kernel
theorem dX10_lay_83 : am_at cX10_lay 83 (.if_icmp .ne 12) 3 86 := by decide +kernel
theorem dX10_lay_86 : am_at cX10_lay 86 (.aload_n 0) 1 87 := by decide +kernel
theorem dX10_lay_87 : am_at cX10_lay 87 (.iload_n 3) 1 88 := by decide +kernel
theorem dX10_lay_88 : am_at cX10_lay 88 (.iconst 0) 1 89 := by decide +kernel
theorem dX10_lay_89 : am_at cX10_lay 89 (.invokevirtual 99) 3 92 := by decide +kernel
theorem dX10_lay_92 : am_at cX10_lay 92 (.goto 18) 3 95 := by decide +kernel
theorem dX10_lay_95 : am_at cX10_lay 95 (.iload_n 2) 1 96 := by decide +kernel
theorem dX10_lay_96 : am_at cX10_lay 96 (.iconst 2) 1 97 := by decide +kernel
theorem dX10_lay_97 : am_at cX10_lay 97 (.if_icmp .ne 12) 3 100 := by decide +kernel
theorem dX10_lay_100 : am_at cX10_lay 100 (.aload_n 0) 1 101 := by decide +kernel
theorem dX10_lay_101 : am_at cX10_lay 101 (.getfield 60) 3 104 := by decide +kernel
theorem dX10_lay_104 : am_at cX10_lay 104 (.iload_n 3) 1 105 := by decide +kernel
theorem dX10_lay_105 : am_at cX10_lay 105 (.iaload) 1 106 := by decide +kernel
theorem dX10_lay_106 : am_at cX10_lay 106 (.goto 4) 3 109 := by decide +kernel
theorem dX10_lay_109 : am_at cX10_lay 109 (.iload_n 3) 1 110 := by decide +kernel
theorem dX10_lay_110 : am_at cX10_lay 110 (.iastore) 1 111 := by decide +kernel
theorem dX10_lay_111 : am_at cX10_lay 111 (.aload_n 0) 1 112 := by decide +kernel
theorem dX10_lay_112 : am_at cX10_lay 112 (.getfield 72) 3 115 := by decide +kernel
theorem dX10_lay_115 : am_at cX10_lay 115 (.iload_n 1) 1 116 := by decide +kernel
theorem dX10_lay_116 : am_at cX10_lay 116 (.iload_n 2) 1 117 := by decide +kernel
theorem dX10_lay_117 : am_at cX10_lay 117 (.iconst 1) 1 118 := by decide +kernel
theorem dX10_lay_118 : am_at cX10_lay 118 (.if_icmp .ne 11) 3 121 := by decide +kernel
theorem dX10_lay_121 : am_at cX10_lay 121 (.aload_n 0) 1 122 := by decide +kernel
theorem dX10_lay_122 : am_at cX10_lay 122 (.iload_n 3) 1 123 := by decide +kernel
theorem dX10_lay_123 : am_at cX10_lay 123 (.invokevirtual 107) 3 126 := by decide +kernel
theorem dX10_lay_126 : am_at cX10_lay 126 (.goto 4) 3 129 := by decide +kernel
theorem dX10_lay_129 : am_at cX10_lay 129 (.iconst 0) 1 130 := by decide +kernel
theorem dX10_lay_130 : am_at cX10_lay 130 (.iastore) 1 131 := by decide +kernel
theorem dX10_lay_131 : am_at cX10_lay 131 (.iconst 0) 1 132 := by decide +kernel
theorem dX10_lay_132 : am_at cX10_lay 132 (.istore 5) 2 134 := by decide +kernel
theorem dX10_lay_134 : am_at cX10_lay 134 (.iload 5) 2 136 := by decide +kernel
theorem dX10_lay_136 : am_at cX10_lay 136 (.bipush 24) 2 138 := by decide +kernel
theorem dX10_lay_138 : am_at cX10_lay 138 (.if_icmp .ge 38) 3 141 := by decide +kernel
theorem dX10_lay_141 : am_at cX10_lay 141 (.iload_n 2) 1 142 := by decide +kernel
theorem dX10_lay_142 : am_at cX10_lay 142 (.iconst 2) 1 143 := by decide +kernel
theorem dX10_lay_143 : am_at cX10_lay 143 (.if_icmp .ne 33) 3 146 := by decide +kernel
theorem dX10_lay_146 : am_at cX10_lay 146 (.aload_n 0) 1 147 := by decide +kernel
theorem dX10_lay_147 : am_at cX10_lay 147 (.getfield 75) 3 150 := by decide +kernel
theorem dX10_lay_150 : am_at cX10_lay 150 (.bipush 24) 2 152 := by decide +kernel
theorem dX10_lay_152 : am_at cX10_lay 152 (.iload_n 1) 1 153 := by decide +kernel
theorem dX10_lay_153 : am_at cX10_lay 153 (.imul) 1 154 := by decide +kernel
theorem dX10_lay_154 : am_at cX10_lay 154 (.iload 5) 2 156 := by decide +kernel
theorem dX10_lay_156 : am_at cX10_lay 156 (.iadd) 1 157 := by decide +kernel
theorem dX10_lay_157 : am_at cX10_lay 157 (.aload_n 0) 1 158 := by decide +kernel
theorem dX10_lay_158 : am_at cX10_lay 158 (.getfield 63) 3 161 := by decide +kernel
theorem dX10_lay_161 : am_at cX10_lay 161 (.bipush 24) 2 163 := by decide +kernel
theorem dX10_lay_163 : am_at cX10_lay 163 (.iload_n 3) 1 164 := by decide +kernel
theorem dX10_lay_164 : am_at cX10_lay 164 (.imul) 1 165 := by decide +kernel
theorem dX10_lay_165 : am_at cX10_lay 165 (.iload 5) 2 167 := by decide +kernel
theorem dX10_lay_167 : am_at cX10_lay 167 (.iadd) 1 168 := by decide +kernel
theorem dX10_lay_168 : am_at cX10_lay 168 (.iaload) 1 169 := by decide +kernel
theorem dX10_lay_169 : am_at cX10_lay 169 (.iastore) 1 170 := by decide +kernel
theorem dX10_lay_170 : am_at cX10_lay 170 (.iinc 5 1) 3 173 := by decide +kernel
theorem dX10_lay_173 : am_at cX10_lay 173 (.goto (-39)) 3 176 := by decide +kernel
theorem dX10_lay_176 : am_at cX10_lay 176 (.iload 4) 2 178 := by decide +kernel
theorem dX10_lay_178 : am_at cX10_lay 178 (.ireturn) 1 179 := by decide +kernel
def fxX10_lay_b134 : Nat → Option Nat → Int32 → Int32 → Int32 → Int32 → Int32 → am_H → Option (Int32 × am_H)
  | 0, _, _, _, _, _, _, _ => none
  | n + 1, l0, l1, l2, l3, l4, l5, h => if (24 : Int32) ≤ l5 then (some (l4, h)) else (if l2 = (2 : Int32) then (am_gd (am_ob h l0 10) (am_gd (am_ob h l0 10) (am_gd (am_ix h (am_gr h l0 28) 0 (((24 : Int32) * l3) + l5)) (am_gd (am_ix h (am_gr h l0 32) 0 (((24 : Int32) * l1) + l5)) (am_lt (am_si h (am_gr h l0 32) (((24 : Int32) * l1) + l5).toNatClampNeg (am_gi h (am_gr h l0 28) (((24 : Int32) * l3) + l5).toNatClampNeg)) (fun h29 => am_lt (l5 + 1) (fun x30 => fxX10_lay_b134 n l0 l1 l2 l3 l4 x30 h29))))))) else (some (l4, h)))
set_option maxRecDepth 100000 in
theorem sxX10_lay_b134 {xs : List Int32} : ∀ (n : Nat) (l0 : Option Nat) (l1 : Int32) (l2 : Int32) (l3 : Int32) (l4 : Int32) (l5 : Int32) (h : am_H), am_Sm xs am_ci mX10_lay 2 0 0 134 [some (am_R l0), some (am_I l1), some (am_I l2), some (am_I l3), some (am_I l4), some (am_I l5)] [] h (fxX10_lay_b134 n l0 l1 l2 l3 l4 l5 h) := by
  intro n
  induction n with
  | zero => intros; exact am_none
  | succ n ih =>
    intro l0 l1 l2 l3 l4 l5 h
    rw [fxX10_lay_b134]
    refine am_iload dX10_lay_134 rfl ?_
    refine am_bipush (v := 24) dX10_lay_136 (by decide) ?_
    refine am_icmp_ge (tgt := 176) dX10_lay_138 (by decide) (fun c32 => ?_) (fun c32 => ?_)
    · refine am_iload dX10_lay_176 rfl ?_
      exact am_iret dX10_lay_178 rfl rfl
    refine am_iload_n dX10_lay_141 rfl ?_
    refine am_iconst (v := 2) dX10_lay_142 (by decide) ?_
    refine am_icmp_ne (tgt := 176) dX10_lay_143 (by decide) (fun c31 => ?_) (fun c31 => ?_)
    · refine am_iload dX10_lay_176 rfl ?_
      exact am_iret dX10_lay_178 rfl rfl
    refine am_aload_n dX10_lay_146 rfl ?_
    refine am_getR dX10_lay_147 fk_RX10_75 rfl ?_
    refine am_bipush (v := 24) dX10_lay_150 (by decide) ?_
    refine am_iload_n dX10_lay_152 rfl ?_
    refine am_imul dX10_lay_153 ?_
    refine am_iload dX10_lay_154 rfl ?_
    refine am_iadd dX10_lay_156 ?_
    refine am_aload_n dX10_lay_157 rfl ?_
    refine am_getR dX10_lay_158 fk_RX10_63 rfl ?_
    refine am_bipush (v := 24) dX10_lay_161 (by decide) ?_
    refine am_iload_n dX10_lay_163 rfl ?_
    refine am_imul dX10_lay_164 ?_
    refine am_iload dX10_lay_165 rfl ?_
    refine am_iadd dX10_lay_167 ?_
    refine am_iald dX10_lay_168 ?_
    refine am_iast dX10_lay_169 (fun h29 => ?_)
    refine am_iinc (v := 1) (LL := fun y9 => [some (am_R l0), some (am_I l1), some (am_I l2), some (am_I l3), some (am_I l4), some (am_I y9)]) dX10_lay_170 (by decide) rfl (by decide) (fun _ => rfl) (fun x30 => ?_)
    refine am_goto (tgt := 134) dX10_lay_173 (by decide) ?_
    exact am_weak (ih l0 l1 l2 l3 l4 x30 h29) ⟨rfl, ⟨rfl, ⟨rfl, ⟨rfl, ⟨rfl, ⟨rfl, trivial⟩⟩⟩⟩⟩⟩ (Nat.le_refl _) (Nat.le_refl _)
def fxX10_lay_b130 (l0 : Option Nat) (l1 : Int32) (l2 : Int32) (l3 : Int32) (l4 : Int32) (s0 : Int32) (s1 : Int32) (s2 : Option Nat) (h : am_H) : Option (Int32 × am_H) := am_gd (am_ix h s2 0 s1) (am_lt (am_si h s2 s1.toNatClampNeg s0) (fun h27 => am_lt (0 : Int32) (fun x28 => fxX10_lay_b134 am_F l0 l1 l2 l3 l4 x28 h27)))
set_option maxRecDepth 100000 in
theorem sxX10_lay_b130 {xs : List Int32} (l0 : Option Nat) (l1 : Int32) (l2 : Int32) (l3 : Int32) (l4 : Int32) (s0 : Int32) (s1 : Int32) (s2 : Option Nat) (h : am_H) : am_Sm xs am_ci mX10_lay 2 0 0 130 [some (am_R l0), some (am_I l1), some (am_I l2), some (am_I l3), some (am_I l4), none] [am_I s0, am_I s1, am_R s2] h (fxX10_lay_b130 l0 l1 l2 l3 l4 s0 s1 s2 h) := by
  unfold fxX10_lay_b130
  refine am_iast dX10_lay_130 (fun h27 => ?_)
  refine am_iconst (v := 0) dX10_lay_131 (by decide) ?_
  refine am_istore (LL := fun y9 => [some (am_R l0), some (am_I l1), some (am_I l2), some (am_I l3), some (am_I l4), some (am_I y9)]) dX10_lay_132 (by decide) (fun _ => rfl) (fun x28 => ?_)
  exact am_weak (sxX10_lay_b134 am_F l0 l1 l2 l3 l4 x28 h27) ⟨rfl, ⟨rfl, ⟨rfl, ⟨rfl, ⟨rfl, ⟨rfl, trivial⟩⟩⟩⟩⟩⟩ (Nat.le_refl _) (Nat.le_refl _)
def fxX10_lay_b110 (l0 : Option Nat) (l1 : Int32) (l2 : Int32) (l3 : Int32) (l4 : Int32) (s0 : Int32) (s1 : Int32) (s2 : Option Nat) (h : am_H) : Option (Int32 × am_H) := am_gd (am_ix h s2 0 s1) (am_lt (am_si h s2 s1.toNatClampNeg s0) (fun h23 => am_gd (am_ob h23 l0 10) (if l2 = (1 : Int32) then (am_gd (am_ob h23 l0 10) (am_bd (fxX10_worthOf l0 l3 h23) (fun r24 h25 => fxX10_lay_b130 l0 l1 l2 l3 l4 r24 l1 (am_gr h23 l0 31) h25))) else (fxX10_lay_b130 l0 l1 l2 l3 l4 (0 : Int32) l1 (am_gr h23 l0 31) h23))))
set_option maxRecDepth 100000 in
theorem sxX10_lay_b110 {xs : List Int32} (l0 : Option Nat) (l1 : Int32) (l2 : Int32) (l3 : Int32) (l4 : Int32) (s0 : Int32) (s1 : Int32) (s2 : Option Nat) (h : am_H) : am_Sm xs am_ci mX10_lay 2 0 0 110 [some (am_R l0), some (am_I l1), some (am_I l2), some (am_I l3), some (am_I l4), none] [am_I s0, am_I s1, am_R s2] h (fxX10_lay_b110 l0 l1 l2 l3 l4 s0 s1 s2 h) := by
  unfold fxX10_lay_b110
  refine am_iast dX10_lay_110 (fun h23 => ?_)
  refine am_aload_n dX10_lay_111 rfl ?_
  refine am_getR dX10_lay_112 fk_RX10_72 rfl ?_
  refine am_iload_n dX10_lay_115 rfl ?_
  refine am_iload_n dX10_lay_116 rfl ?_
  refine am_iconst (v := 1) dX10_lay_117 (by decide) ?_
  refine am_icmp_ne (tgt := 129) dX10_lay_118 (by decide) (fun c26 => ?_) (fun c26 => ?_)
  · refine am_iconst (v := 0) dX10_lay_129 (by decide) ?_
    exact am_weak (sxX10_lay_b130 l0 l1 l2 l3 l4 (0 : Int32) l1 (am_gr h23 l0 31) h23) ⟨rfl, ⟨rfl, ⟨rfl, ⟨rfl, ⟨rfl, trivial⟩⟩⟩⟩⟩ (Nat.le_refl _) (Nat.le_refl _)
  refine am_aload_n dX10_lay_121 rfl ?_
  refine am_iload_n dX10_lay_122 rfl ?_
  refine am_callV (cvj := am_ci) (mtj := mX10_worthOf) (dj := 1) (nj := 1) (rcj := 0) (rsj := 0) (rc' := 0) (rs' := 0) (ci := 10) (st' := fun a9 => (am_I a9 :: [am_I l1, am_R (am_gr h23 l0 31)])) ⟨_, rfl, rfl⟩ [am_I l3] [am_I l1, am_R (am_gr h23 l0 31)] dX10_lay_123 okX10_worthOf lk_RX10_107 (fun zA zH zE => txX10_worthOf l0 l3 h23 zA zH zE) rfl (fun _ => rfl) (by decide) rfl (Nat.le_of_ble_eq_true rfl) (by decide) (by decide) (fun r24 h25 => ?_)
  refine am_goto (tgt := 130) dX10_lay_126 (by decide) ?_
  exact am_weak (sxX10_lay_b130 l0 l1 l2 l3 l4 r24 l1 (am_gr h23 l0 31) h25) ⟨rfl, ⟨rfl, ⟨rfl, ⟨rfl, ⟨rfl, trivial⟩⟩⟩⟩⟩ (Nat.le_refl _) (Nat.le_refl _)
def fxX10_lay_b61 (l0 : Option Nat) (l1 : Int32) (l2 : Int32) (l3 : Int32) (h : am_H) : Option (Int32 × am_H) := am_gd (am_ob h l0 10) (am_gd (am_ix h (am_gr h l0 29) 0 l1) (am_lt (am_gi h (am_gr h l0 29) l1.toNatClampNeg) (fun x17 => am_gd (am_ob h l0 10) (am_gd (am_ix h (am_gr h l0 29) 0 l1) (am_lt (am_si h (am_gr h l0 29) l1.toNatClampNeg l2) (fun h18 => am_gd (am_ob h18 l0 10) (if l2 = (1 : Int32) then (am_gd (am_ob h18 l0 10) (am_bd (fxX10_of l0 l3 (0 : Int32) h18) (fun r20 h21 => fxX10_lay_b110 l0 l1 l2 l3 x17 r20 l1 (am_gr h18 l0 30) h21))) else (if l2 = (2 : Int32) then (am_gd (am_ob h18 l0 10) (am_gd (am_ix h18 (am_gr h18 l0 27) 0 l3) (fxX10_lay_b110 l0 l1 l2 l3 x17 (am_gi h18 (am_gr h18 l0 27) l3.toNatClampNeg) l1 (am_gr h18 l0 30) h18))) else (fxX10_lay_b110 l0 l1 l2 l3 x17 l3 l1 (am_gr h18 l0 30) h18)))))))))
set_option maxRecDepth 100000 in
theorem sxX10_lay_b61 {xs : List Int32} (l0 : Option Nat) (l1 : Int32) (l2 : Int32) (l3 : Int32) (h : am_H) : am_Sm xs am_ci mX10_lay 2 0 0 61 [some (am_R l0), some (am_I l1), some (am_I l2), some (am_I l3), none, none] [] h (fxX10_lay_b61 l0 l1 l2 l3 h) := by
  unfold fxX10_lay_b61
  refine am_aload_n dX10_lay_61 rfl ?_
  refine am_getR dX10_lay_62 fk_RX10_66 rfl ?_
  refine am_iload_n dX10_lay_65 rfl ?_
  refine am_iald dX10_lay_66 ?_
  refine am_istore (LL := fun y9 => [some (am_R l0), some (am_I l1), some (am_I l2), some (am_I l3), some (am_I y9), none]) dX10_lay_67 (by decide) (fun _ => rfl) (fun x17 => ?_)
  refine am_aload_n dX10_lay_69 rfl ?_
  refine am_getR dX10_lay_70 fk_RX10_66 rfl ?_
  refine am_iload_n dX10_lay_73 rfl ?_
  refine am_iload_n dX10_lay_74 rfl ?_
  refine am_iast dX10_lay_75 (fun h18 => ?_)
  refine am_aload_n dX10_lay_76 rfl ?_
  refine am_getR dX10_lay_77 fk_RX10_69 rfl ?_
  refine am_iload_n dX10_lay_80 rfl ?_
  refine am_iload_n dX10_lay_81 rfl ?_
  refine am_iconst (v := 1) dX10_lay_82 (by decide) ?_
  refine am_icmp_ne (tgt := 95) dX10_lay_83 (by decide) (fun c22 => ?_) (fun c22 => ?_)
  · refine am_iload_n dX10_lay_95 rfl ?_
    refine am_iconst (v := 2) dX10_lay_96 (by decide) ?_
    refine am_icmp_ne (tgt := 109) dX10_lay_97 (by decide) (fun c19 => ?_) (fun c19 => ?_)
    · refine am_iload_n dX10_lay_109 rfl ?_
      exact am_weak (sxX10_lay_b110 l0 l1 l2 l3 x17 l3 l1 (am_gr h18 l0 30) h18) ⟨rfl, ⟨rfl, ⟨rfl, ⟨rfl, ⟨rfl, trivial⟩⟩⟩⟩⟩ (Nat.le_refl _) (Nat.le_refl _)
    refine am_aload_n dX10_lay_100 rfl ?_
    refine am_getR dX10_lay_101 fk_RX10_60 rfl ?_
    refine am_iload_n dX10_lay_104 rfl ?_
    refine am_iald dX10_lay_105 ?_
    refine am_goto (tgt := 110) dX10_lay_106 (by decide) ?_
    exact am_weak (sxX10_lay_b110 l0 l1 l2 l3 x17 (am_gi h18 (am_gr h18 l0 27) l3.toNatClampNeg) l1 (am_gr h18 l0 30) h18) ⟨rfl, ⟨rfl, ⟨rfl, ⟨rfl, ⟨rfl, trivial⟩⟩⟩⟩⟩ (Nat.le_refl _) (Nat.le_refl _)
  refine am_aload_n dX10_lay_86 rfl ?_
  refine am_iload_n dX10_lay_87 rfl ?_
  refine am_iconst (v := 0) dX10_lay_88 (by decide) ?_
  refine am_callV (cvj := am_ci) (mtj := mX10_of) (dj := 0) (nj := 2) (rcj := 0) (rsj := 0) (rc' := 0) (rs' := 0) (ci := 10) (st' := fun a9 => (am_I a9 :: [am_I l1, am_R (am_gr h18 l0 30)])) ⟨_, rfl, rfl⟩ [am_I l3, am_I (0 : Int32)] [am_I l1, am_R (am_gr h18 l0 30)] dX10_lay_89 okX10_of lk_RX10_99 (fun zA zH zE => txX10_of l0 l3 (0 : Int32) h18 zA zH zE) rfl (fun _ => rfl) (by decide) rfl (Nat.le_of_ble_eq_true rfl) (by decide) (by decide) (fun r20 h21 => ?_)
  refine am_goto (tgt := 110) dX10_lay_92 (by decide) ?_
  exact am_weak (sxX10_lay_b110 l0 l1 l2 l3 x17 r20 l1 (am_gr h18 l0 30) h21) ⟨rfl, ⟨rfl, ⟨rfl, ⟨rfl, ⟨rfl, trivial⟩⟩⟩⟩⟩ (Nat.le_refl _) (Nat.le_refl _)
def fxX10_lay_b44 (l0 : Option Nat) (l1 : Int32) (l2 : Int32) (l3 : Int32) (h : am_H) : Option (Int32 × am_H) := if l2 = (2 : Int32) then (am_gd (am_ob h l0 10) (am_gd (am_ix h (am_gr h l0 26) 0 l3) (if 0 ≤ (am_gi h (am_gr h l0 26) l3.toNatClampNeg) then (fxX10_lay_b61 l0 l1 l2 l3 h) else (some ((-1000000011 : Int32), h))))) else (fxX10_lay_b61 l0 l1 l2 l3 h)
set_option maxRecDepth 100000 in
theorem sxX10_lay_b44 {xs : List Int32} (l0 : Option Nat) (l1 : Int32) (l2 : Int32) (l3 : Int32) (h : am_H) : am_Sm xs am_ci mX10_lay 2 0 0 44 [some (am_R l0), some (am_I l1), some (am_I l2), some (am_I l3), none, none] [] h (fxX10_lay_b44 l0 l1 l2 l3 h) := by
  unfold fxX10_lay_b44
  refine am_iload_n dX10_lay_44 rfl ?_
  refine am_iconst (v := 2) dX10_lay_45 (by decide) ?_
  refine am_icmp_ne (tgt := 61) dX10_lay_46 (by decide) (fun c16 => ?_) (fun c16 => ?_)
  · exact am_weak (sxX10_lay_b61 l0 l1 l2 l3 h) ⟨rfl, ⟨rfl, ⟨rfl, ⟨rfl, trivial⟩⟩⟩⟩ (Nat.le_refl _) (Nat.le_refl _)
  refine am_aload_n dX10_lay_49 rfl ?_
  refine am_getR dX10_lay_50 fk_RX10_57 rfl ?_
  refine am_iload_n dX10_lay_53 rfl ?_
  refine am_iald dX10_lay_54 ?_
  refine am_if_ge (tgt := 61) dX10_lay_55 (by decide) (fun c15 => ?_) (fun c15 => ?_)
  · exact am_weak (sxX10_lay_b61 l0 l1 l2 l3 h) ⟨rfl, ⟨rfl, ⟨rfl, ⟨rfl, trivial⟩⟩⟩⟩ (Nat.le_refl _) (Nat.le_refl _)
  refine am_ldc (v := (-1000000011)) dX10_lay_58 wd1194 ?_
  exact am_iret dX10_lay_60 rfl rfl
def fxX10_lay_b29 (l0 : Option Nat) (l1 : Int32) (l2 : Int32) (l3 : Int32) (h : am_H) : Option (Int32 × am_H) := if l2 = (2 : Int32) then (am_bd (fxX10_isSheet l3 h) (fun r11 h12 => if r11 = 0 then (some ((-1000000001 : Int32), h12)) else (fxX10_lay_b44 l0 l1 l2 l3 h12))) else (fxX10_lay_b44 l0 l1 l2 l3 h)
set_option maxRecDepth 100000 in
theorem sxX10_lay_b29 {xs : List Int32} (l0 : Option Nat) (l1 : Int32) (l2 : Int32) (l3 : Int32) (h : am_H) : am_Sm xs am_ci mX10_lay 2 0 0 29 [some (am_R l0), some (am_I l1), some (am_I l2), some (am_I l3), none, none] [] h (fxX10_lay_b29 l0 l1 l2 l3 h) := by
  unfold fxX10_lay_b29
  refine am_iload_n dX10_lay_29 rfl ?_
  refine am_iconst (v := 2) dX10_lay_30 (by decide) ?_
  refine am_icmp_ne (tgt := 44) dX10_lay_31 (by decide) (fun c14 => ?_) (fun c14 => ?_)
  · exact am_weak (sxX10_lay_b44 l0 l1 l2 l3 h) ⟨rfl, ⟨rfl, ⟨rfl, ⟨rfl, trivial⟩⟩⟩⟩ (Nat.le_refl _) (Nat.le_refl _)
  refine am_iload_n dX10_lay_34 rfl ?_
  refine am_callS (cvj := am_ci) (mtj := mX10_isSheet) (dj := 1) (nj := 1) (rcj := 0) (rsj := 0) (rc' := 0) (rs' := 0) (st' := fun a9 => (am_I a9 :: [])) [am_I l3] [] dX10_lay_35 okX10_isSheet lk_RX10_167 (fun zA zH zE => txX10_isSheet l3 h zA zH zE) rfl (fun _ => rfl) (by decide) rfl (Nat.le_of_ble_eq_true rfl) (by decide) (by decide) (fun r11 h12 => ?_)
  refine am_if_ne (tgt := 44) dX10_lay_38 (by decide) (fun c13 => ?_) (fun c13 => ?_)
  · exact am_weak (sxX10_lay_b44 l0 l1 l2 l3 h12) ⟨rfl, ⟨rfl, ⟨rfl, ⟨rfl, trivial⟩⟩⟩⟩ (Nat.le_refl _) (Nat.le_refl _)
  refine am_ldc (v := (-1000000001)) dX10_lay_41 wd1060 ?_
  exact am_iret dX10_lay_43 rfl rfl
def fxX10_lay (l0 : Option Nat) (l1 : Int32) (l2 : Int32) (l3 : Int32) (h : am_H) : Option (Int32 × am_H) := am_bd (fxX10_isSlot l1 h) (fun r1 h2 => if r1 = 0 then (some ((-1000000001 : Int32), h2)) else (am_bd (fxX10_in l2 (0 : Int32) (3 : Int32) h2) (fun r3 h4 => if r3 = 0 then (some ((-1000000001 : Int32), h4)) else (if l2 = (1 : Int32) then (am_gd (am_ob h4 l0 10) (am_bd (fxX10_isGlove l0 l3 h4) (fun r5 h6 => if r5 = 0 then (some ((-1000000001 : Int32), h6)) else (fxX10_lay_b29 l0 l1 l2 l3 h6)))) else (fxX10_lay_b29 l0 l1 l2 l3 h4)))))
set_option maxRecDepth 100000 in
theorem sxX10_lay {xs : List Int32} (l0 : Option Nat) (l1 : Int32) (l2 : Int32) (l3 : Int32) (h : am_H) : am_Sm xs am_ci mX10_lay 2 0 0 0 [some (am_R l0), some (am_I l1), some (am_I l2), some (am_I l3), none, none] [] h (fxX10_lay l0 l1 l2 l3 h) := by
  unfold fxX10_lay
  refine am_iload_n dX10_lay_0 rfl ?_
  refine am_callS (cvj := am_ci) (mtj := mX10_isSlot) (dj := 1) (nj := 1) (rcj := 0) (rsj := 0) (rc' := 0) (rs' := 0) (st' := fun a9 => (am_I a9 :: [])) [am_I l1] [] dX10_lay_1 okX10_isSlot lk_RX10_286 (fun zA zH zE => txX10_isSlot l1 h zA zH zE) rfl (fun _ => rfl) (by decide) rfl (Nat.le_of_ble_eq_true rfl) (by decide) (by decide) (fun r1 h2 => ?_)
  refine am_if_eq (tgt := 41) dX10_lay_4 (by decide) (fun c10 => ?_) (fun c10 => ?_)
  · refine am_ldc (v := (-1000000001)) dX10_lay_41 wd1060 ?_
    exact am_iret dX10_lay_43 rfl rfl
  refine am_iload_n dX10_lay_7 rfl ?_
  refine am_iconst (v := 0) dX10_lay_8 (by decide) ?_
  refine am_iconst (v := 3) dX10_lay_9 (by decide) ?_
  refine am_callS (cvj := am_ci) (mtj := mX10_in) (dj := 0) (nj := 3) (rcj := 0) (rsj := 0) (rc' := 0) (rs' := 0) (st' := fun a9 => (am_I a9 :: [])) [am_I l2, am_I (0 : Int32), am_I (3 : Int32)] [] dX10_lay_10 okX10_in lk_RX10_85 (fun zA zH zE => txX10_in l2 (0 : Int32) (3 : Int32) h2 zA zH zE) rfl (fun _ => rfl) (by decide) rfl (Nat.le_of_ble_eq_true rfl) (by decide) (by decide) (fun r3 h4 => ?_)
  refine am_if_eq (tgt := 41) dX10_lay_13 (by decide) (fun c9 => ?_) (fun c9 => ?_)
  · refine am_ldc (v := (-1000000001)) dX10_lay_41 wd1060 ?_
    exact am_iret dX10_lay_43 rfl rfl
  refine am_iload_n dX10_lay_16 rfl ?_
  refine am_iconst (v := 1) dX10_lay_17 (by decide) ?_
  refine am_icmp_ne (tgt := 29) dX10_lay_18 (by decide) (fun c8 => ?_) (fun c8 => ?_)
  · exact am_weak (sxX10_lay_b29 l0 l1 l2 l3 h4) ⟨rfl, ⟨rfl, ⟨rfl, ⟨rfl, trivial⟩⟩⟩⟩ (Nat.le_refl _) (Nat.le_refl _)
  refine am_aload_n dX10_lay_21 rfl ?_
  refine am_iload_n dX10_lay_22 rfl ?_
  refine am_callV (cvj := am_ci) (mtj := mX10_isGlove) (dj := 1) (nj := 1) (rcj := 0) (rsj := 0) (rc' := 0) (rs' := 0) (ci := 10) (st' := fun a9 => (am_I a9 :: [])) ⟨_, rfl, rfl⟩ [am_I l3] [] dX10_lay_23 okX10_isGlove lk_RX10_103 (fun zA zH zE => txX10_isGlove l0 l3 h4 zA zH zE) rfl (fun _ => rfl) (by decide) rfl (Nat.le_of_ble_eq_true rfl) (by decide) (by decide) (fun r5 h6 => ?_)
  refine am_if_eq (tgt := 41) dX10_lay_26 (by decide) (fun c7 => ?_) (fun c7 => ?_)
  · refine am_ldc (v := (-1000000001)) dX10_lay_41 wd1060 ?_
    exact am_iret dX10_lay_43 rfl rfl
  exact am_weak (sxX10_lay_b29 l0 l1 l2 l3 h6) ⟨rfl, ⟨rfl, ⟨rfl, ⟨rfl, trivial⟩⟩⟩⟩ (Nat.le_refl _) (Nat.le_refl _)
theorem txX10_lay {xs : List Int32} (l0 : Option Nat) (l1 : Int32) (l2 : Int32) (l3 : Int32) (h : am_H) (a : Int32) (h2 : am_H) (e : fxX10_lay l0 l1 l2 l3 h = some (a, h2)) : am_Ct xs mX10_lay 2 0 0 [am_R l0, am_I l1, am_I l2, am_I l3] h (fun v h3 => v = am_ci a ∧ h3 = h2) := am_meth okX10_lay (Nat.le_of_ble_eq_true rfl) rfl (sxX10_lay l0 l1 l2 l3 h) e
theorem dX10_ask_0 : am_at cX10_ask 0 (.iload_n 1) 1 1 := by decide +kernel
theorem dX10_ask_1 : am_at cX10_ask 1 (.invokestatic 286) 3 4 := by decide +kernel
theorem dX10_ask_4 : am_at cX10_ask 4 (.ifCond .eq 12) 3 7 := by decide +kernel
theorem dX10_ask_7 : am_at cX10_ask 7 (.iload_n 2) 1 8 := by decide +kernel
theorem dX10_ask_8 : am_at cX10_ask 8 (.iconst 0) 1 9 := by decide +kernel
theorem dX10_ask_9 : am_at cX10_ask 9 (.iconst 5) 1 10 := by decide +kernel
theorem dX10_ask_10 : am_at cX10_ask 10 (.invokestatic 85) 3 13 := by decide +kernel
theorem dX10_ask_13 : am_at cX10_ask 13 (.ifCond .ne 6) 3 16 := by decide +kernel
theorem dX10_ask_16 : am_at cX10_ask 16 (.ldc 93) 2 18 := by decide +kernel
theorem dX10_ask_18 : am_at cX10_ask 18 (.ireturn) 1 19 := by decide +kernel
theorem dX10_ask_19 : am_at cX10_ask 19 (.aload_n 0) 1 20 := by decide +kernel
theorem dX10_ask_20 : am_at cX10_ask 20 (.getfield 66) 3 23 := by decide +kernel
theorem dX10_ask_23 : am_at cX10_ask 23 (.iload_n 1) 1 24 := by decide +kernel
theorem dX10_ask_24 : am_at cX10_ask 24 (.iaload) 1 25 := by decide +kernel
theorem dX10_ask_25 : am_at cX10_ask 25 (.ifCond .ne 6) 3 28 := by decide +kernel
theorem dX10_ask_28 : am_at cX10_ask 28 (.ldc 170) 2 30 := by decide +kernel
theorem dX10_ask_30 : am_at cX10_ask 30 (.ireturn) 1 31 := by decide +kernel
theorem dX10_ask_31 : am_at cX10_ask 31 (.aload_n 0) 1 32 := by decide +kernel
theorem dX10_ask_32 : am_at cX10_ask 32 (.getfield 66) 3 35 := by decide +kernel
theorem dX10_ask_35 : am_at cX10_ask 35 (.iload_n 1) 1 36 := by decide +kernel
theorem dX10_ask_36 : am_at cX10_ask 36 (.iaload) 1 37 := by decide +kernel
theorem dX10_ask_37 : am_at cX10_ask 37 (.iconst 1) 1 38 := by decide +kernel
theorem dX10_ask_38 : am_at cX10_ask 38 (.if_icmp .ne 25) 3 41 := by decide +kernel
theorem dX10_ask_41 : am_at cX10_ask 41 (.aload_n 0) 1 42 := by decide +kernel
theorem dX10_ask_42 : am_at cX10_ask 42 (.getfield 69) 3 45 := by decide +kernel
theorem dX10_ask_45 : am_at cX10_ask 45 (.iload_n 1) 1 46 := by decide +kernel
theorem dX10_ask_46 : am_at cX10_ask 46 (.iaload) 1 47 := by decide +kernel
theorem dX10_ask_47 : am_at cX10_ask 47 (.iload_n 2) 1 48 := by decide +kernel
theorem dX10_ask_48 : am_at cX10_ask 48 (.invokestatic 111) 3 51 := by decide +kernel
theorem dX10_ask_51 : am_at cX10_ask 51 (.ifCond .eq 12) 3 54 := by decide +kernel
theorem dX10_ask_54 : am_at cX10_ask 54 (.aload_n 0) 1 55 := by decide +kernel
theorem dX10_ask_55 : am_at cX10_ask 55 (.getfield 72) 3 58 := by decide +kernel
theorem dX10_ask_58 : am_at cX10_ask 58 (.iload_n 1) 1 59 := by decide +kernel
theorem dX10_ask_59 : am_at cX10_ask 59 (.iaload) 1 60 := by decide +kernel
theorem dX10_ask_60 : am_at cX10_ask 60 (.goto 5) 3 63 := by decide +kernel
theorem dX10_ask_63 : am_at cX10_ask 63 (.ldc 115) 2 65 := by decide +kernel
theorem dX10_ask_65 : am_at cX10_ask 65 (.ireturn) 1 66 := by decide +kernel
def fxX10_ask (l0 : Option Nat) (l1 : Int32) (l2 : Int32) (h : am_H) : Option (Int32 × am_H) := am_bd (fxX10_isSlot l1 h) (fun r1 h2 => if r1 = 0 then (some ((-1000000001 : Int32), h2)) else (am_bd (fxX10_in l2 (0 : Int32) (5 : Int32) h2) (fun r3 h4 => if r3 = 0 then (some ((-1000000001 : Int32), h4)) else (am_gd (am_ob h4 l0 10) (am_gd (am_ix h4 (am_gr h4 l0 29) 0 l1) (if (am_gi h4 (am_gr h4 l0 29) l1.toNatClampNeg) = 0 then (some ((-1000000011 : Int32), h4)) else (am_gd (am_ob h4 l0 10) (am_gd (am_ix h4 (am_gr h4 l0 29) 0 l1) (if (am_gi h4 (am_gr h4 l0 29) l1.toNatClampNeg) = (1 : Int32) then (am_gd (am_ob h4 l0 10) (am_gd (am_ix h4 (am_gr h4 l0 30) 0 l1) (am_bd (fxX10_isUnder (am_gi h4 (am_gr h4 l0 30) l1.toNatClampNeg) l2 h4) (fun r5 h6 => if r5 = 0 then (some ((-1000000012 : Int32), h6)) else (am_gd (am_ob h6 l0 10) (am_gd (am_ix h6 (am_gr h6 l0 31) 0 l1) (some ((am_gi h6 (am_gr h6 l0 31) l1.toNatClampNeg), h6)))))))) else (some ((-1000000012 : Int32), h4)))))))))))
set_option maxRecDepth 100000 in
theorem sxX10_ask {xs : List Int32} (l0 : Option Nat) (l1 : Int32) (l2 : Int32) (h : am_H) : am_Sm xs am_ci mX10_ask 2 0 0 0 [some (am_R l0), some (am_I l1), some (am_I l2)] [] h (fxX10_ask l0 l1 l2 h) := by
  unfold fxX10_ask
  refine am_iload_n dX10_ask_0 rfl ?_
  refine am_callS (cvj := am_ci) (mtj := mX10_isSlot) (dj := 1) (nj := 1) (rcj := 0) (rsj := 0) (rc' := 0) (rs' := 0) (st' := fun a9 => (am_I a9 :: [])) [am_I l1] [] dX10_ask_1 okX10_isSlot lk_RX10_286 (fun zA zH zE => txX10_isSlot l1 h zA zH zE) rfl (fun _ => rfl) (by decide) rfl (Nat.le_of_ble_eq_true rfl) (by decide) (by decide) (fun r1 h2 => ?_)
  refine am_if_eq (tgt := 16) dX10_ask_4 (by decide) (fun c11 => ?_) (fun c11 => ?_)
  · refine am_ldc (v := (-1000000001)) dX10_ask_16 wd1060 ?_
    exact am_iret dX10_ask_18 rfl rfl
  refine am_iload_n dX10_ask_7 rfl ?_
  refine am_iconst (v := 0) dX10_ask_8 (by decide) ?_
  refine am_iconst (v := 5) dX10_ask_9 (by decide) ?_
  refine am_callS (cvj := am_ci) (mtj := mX10_in) (dj := 0) (nj := 3) (rcj := 0) (rsj := 0) (rc' := 0) (rs' := 0) (st' := fun a9 => (am_I a9 :: [])) [am_I l2, am_I (0 : Int32), am_I (5 : Int32)] [] dX10_ask_10 okX10_in lk_RX10_85 (fun zA zH zE => txX10_in l2 (0 : Int32) (5 : Int32) h2 zA zH zE) rfl (fun _ => rfl) (by decide) rfl (Nat.le_of_ble_eq_true rfl) (by decide) (by decide) (fun r3 h4 => ?_)
  refine am_if_ne (tgt := 19) dX10_ask_13 (by decide) (fun c10 => ?_) (fun c10 => ?_)
  · refine am_aload_n dX10_ask_19 rfl ?_
    refine am_getR dX10_ask_20 fk_RX10_66 rfl ?_
    refine am_iload_n dX10_ask_23 rfl ?_
    refine am_iald dX10_ask_24 ?_
    refine am_if_ne (tgt := 31) dX10_ask_25 (by decide) (fun c9 => ?_) (fun c9 => ?_)
    · refine am_aload_n dX10_ask_31 rfl ?_
      refine am_getR dX10_ask_32 fk_RX10_66 rfl ?_
      refine am_iload_n dX10_ask_35 rfl ?_
      refine am_iald dX10_ask_36 ?_
      refine am_iconst (v := 1) dX10_ask_37 (by decide) ?_
      refine am_icmp_ne (tgt := 63) dX10_ask_38 (by decide) (fun c8 => ?_) (fun c8 => ?_)
      · refine am_ldc (v := (-1000000012)) dX10_ask_63 wd1093 ?_
        exact am_iret dX10_ask_65 rfl rfl
      refine am_aload_n dX10_ask_41 rfl ?_
      refine am_getR dX10_ask_42 fk_RX10_69 rfl ?_
      refine am_iload_n dX10_ask_45 rfl ?_
      refine am_iald dX10_ask_46 ?_
      refine am_iload_n dX10_ask_47 rfl ?_
      refine am_callS (cvj := am_ci) (mtj := mX10_isUnder) (dj := 0) (nj := 2) (rcj := 0) (rsj := 0) (rc' := 0) (rs' := 0) (st' := fun a9 => (am_I a9 :: [])) [am_I (am_gi h4 (am_gr h4 l0 30) l1.toNatClampNeg), am_I l2] [] dX10_ask_48 okX10_isUnder lk_RX10_111 (fun zA zH zE => txX10_isUnder (am_gi h4 (am_gr h4 l0 30) l1.toNatClampNeg) l2 h4 zA zH zE) rfl (fun _ => rfl) (by decide) rfl (Nat.le_of_ble_eq_true rfl) (by decide) (by decide) (fun r5 h6 => ?_)
      refine am_if_eq (tgt := 63) dX10_ask_51 (by decide) (fun c7 => ?_) (fun c7 => ?_)
      · refine am_ldc (v := (-1000000012)) dX10_ask_63 wd1093 ?_
        exact am_iret dX10_ask_65 rfl rfl
      refine am_aload_n dX10_ask_54 rfl ?_
      refine am_getR dX10_ask_55 fk_RX10_72 rfl ?_
      refine am_iload_n dX10_ask_58 rfl ?_
      refine am_iald dX10_ask_59 ?_
      refine am_goto (tgt := 65) dX10_ask_60 (by decide) ?_
      exact am_iret dX10_ask_65 rfl rfl
    refine am_ldc (v := (-1000000011)) dX10_ask_28 wd1194 ?_
    exact am_iret dX10_ask_30 rfl rfl
  refine am_ldc (v := (-1000000001)) dX10_ask_16 wd1060 ?_
  exact am_iret dX10_ask_18 rfl rfl
theorem txX10_ask {xs : List Int32} (l0 : Option Nat) (l1 : Int32) (l2 : Int32) (h : am_H) (a : Int32) (h2 : am_H) (e : fxX10_ask l0 l1 l2 h = some (a, h2)) : am_Ct xs mX10_ask 2 0 0 [am_R l0, am_I l1, am_I l2] h (fun v h3 => v = am_ci a ∧ h3 = h2) := am_meth okX10_ask (Nat.le_of_ble_eq_true rfl) rfl (sxX10_ask l0 l1 l2 h) e
theorem dX10_item_0 : am_at cX10_item 0 (.iload_n 1) 1 1 := by decide +kernel
theorem dX10_item_1 : am_at cX10_item 1 (.invokestatic 286) 3 4 := by decide +kernel
theorem dX10_item_4 : am_at cX10_item 4 (.ifCond .ne 6) 3 7 := by decide +kernel
theorem dX10_item_7 : am_at cX10_item 7 (.ldc 93) 2 9 := by decide +kernel
theorem dX10_item_9 : am_at cX10_item 9 (.ireturn) 1 10 := by decide +kernel
theorem dX10_item_10 : am_at cX10_item 10 (.aload_n 0) 1 11 := by decide +kernel
theorem dX10_item_11 : am_at cX10_item 11 (.getfield 66) 3 14 := by decide +kernel
theorem dX10_item_14 : am_at cX10_item 14 (.iload_n 1) 1 15 := by decide +kernel
theorem dX10_item_15 : am_at cX10_item 15 (.iaload) 1 16 := by decide +kernel
theorem dX10_item_16 : am_at cX10_item 16 (.ifCond .ne 6) 3 19 := by decide +kernel
theorem dX10_item_19 : am_at cX10_item 19 (.ldc 170) 2 21 := by decide +kernel
theorem dX10_item_21 : am_at cX10_item 21 (.ireturn) 1 22 := by decide +kernel
theorem dX10_item_22 : am_at cX10_item 22 (.aload_n 0) 1 23 := by decide +kernel
theorem dX10_item_23 : am_at cX10_item 23 (.getfield 66) 3 26 := by decide +kernel
theorem dX10_item_26 : am_at cX10_item 26 (.iload_n 1) 1 27 := by decide +kernel
theorem dX10_item_27 : am_at cX10_item 27 (.iaload) 1 28 := by decide +kernel
theorem dX10_item_28 : am_at cX10_item 28 (.iconst 2) 1 29 := by decide +kernel
theorem dX10_item_29 : am_at cX10_item 29 (.if_icmp .eq 6) 3 32 := by decide +kernel
theorem dX10_item_32 : am_at cX10_item 32 (.ldc 115) 2 34 := by decide +kernel
theorem dX10_item_34 : am_at cX10_item 34 (.ireturn) 1 35 := by decide +kernel
theorem dX10_item_35 : am_at cX10_item 35 (.iload_n 2) 1 36 := by decide +kernel
theorem dX10_item_36 : am_at cX10_item 36 (.iconst 0) 1 37 := by decide +kernel
theorem dX10_item_37 : am_at cX10_item 37 (.aload_n 0) 1 38 := by decide +kernel
theorem dX10_item_38 : am_at cX10_item 38 (.getfield 69) 3 41 := by decide +kernel
theorem dX10_item_41 : am_at cX10_item 41 (.iload_n 1) 1 42 := by decide +kernel
theorem dX10_item_42 : am_at cX10_item 42 (.iaload) 1 43 := by decide +kernel
theorem dX10_item_43 : am_at cX10_item 43 (.iconst 1) 1 44 := by decide +kernel
theorem dX10_item_44 : am_at cX10_item 44 (.isub) 1 45 := by decide +kernel
theorem dX10_item_45 : am_at cX10_item 45 (.invokestatic 85) 3 48 := by decide +kernel
theorem dX10_item_48 : am_at cX10_item 48 (.ifCond .ne 7) 3 51 := by decide +kernel
theorem dX10_item_51 : am_at cX10_item 51 (.ldc_w 283) 3 54 := by decide +kernel
theorem dX10_item_54 : am_at cX10_item 54 (.ireturn) 1 55 := by decide +kernel
theorem dX10_item_55 : am_at cX10_item 55 (.aload_n 0) 1 56 := by decide +kernel
theorem dX10_item_56 : am_at cX10_item 56 (.getfield 75) 3 59 := by decide +kernel
theorem dX10_item_59 : am_at cX10_item 59 (.bipush 24) 2 61 := by decide +kernel
theorem dX10_item_61 : am_at cX10_item 61 (.iload_n 1) 1 62 := by decide +kernel
theorem dX10_item_62 : am_at cX10_item 62 (.imul) 1 63 := by decide +kernel
theorem dX10_item_63 : am_at cX10_item 63 (.iload_n 2) 1 64 := by decide +kernel
theorem dX10_item_64 : am_at cX10_item 64 (.iadd) 1 65 := by decide +kernel
theorem dX10_item_65 : am_at cX10_item 65 (.iaload) 1 66 := by decide +kernel
theorem dX10_item_66 : am_at cX10_item 66 (.istore_n 3) 1 67 := by decide +kernel
theorem dX10_item_67 : am_at cX10_item 67 (.iload_n 3) 1 68 := by decide +kernel
theorem dX10_item_68 : am_at cX10_item 68 (.ldc 84) 2 70 := by decide +kernel
theorem dX10_item_70 : am_at cX10_item 70 (.if_icmp .ne 8) 3 73 := by decide +kernel
theorem dX10_item_73 : am_at cX10_item 73 (.ldc 115) 2 75 := by decide +kernel
theorem dX10_item_75 : am_at cX10_item 75 (.goto 4) 3 78 := by decide +kernel
theorem dX10_item_78 : am_at cX10_item 78 (.iload_n 3) 1 79 := by decide +kernel
theorem dX10_item_79 : am_at cX10_item 79 (.ireturn) 1 80 := by decide +kernel
def fxX10_item (l0 : Option Nat) (l1 : Int32) (l2 : Int32) (h : am_H) : Option (Int32 × am_H) := am_bd (fxX10_isSlot l1 h) (fun r1 h2 => if r1 = 0 then (some ((-1000000001 : Int32), h2)) else (am_gd (am_ob h2 l0 10) (am_gd (am_ix h2 (am_gr h2 l0 29) 0 l1) (if (am_gi h2 (am_gr h2 l0 29) l1.toNatClampNeg) = 0 then (some ((-1000000011 : Int32), h2)) else (am_gd (am_ob h2 l0 10) (am_gd (am_ix h2 (am_gr h2 l0 29) 0 l1) (if (am_gi h2 (am_gr h2 l0 29) l1.toNatClampNeg) = (2 : Int32) then (am_gd (am_ob h2 l0 10) (am_gd (am_ix h2 (am_gr h2 l0 30) 0 l1) (am_bd (fxX10_in l2 (0 : Int32) ((am_gi h2 (am_gr h2 l0 30) l1.toNatClampNeg) - (1 : Int32)) h2) (fun r3 h4 => if r3 = 0 then (some ((-1000000013 : Int32), h4)) else (am_gd (am_ob h4 l0 10) (am_gd (am_ix h4 (am_gr h4 l0 32) 0 (((24 : Int32) * l1) + l2)) (am_lt (am_gi h4 (am_gr h4 l0 32) (((24 : Int32) * l1) + l2).toNatClampNeg) (fun x5 => if x5 = (-1000000005 : Int32) then (some ((-1000000012 : Int32), h4)) else (some (x5, h4)))))))))) else (some ((-1000000012 : Int32), h2)))))))))
set_option maxRecDepth 100000 in
theorem sxX10_item {xs : List Int32} (l0 : Option Nat) (l1 : Int32) (l2 : Int32) (h : am_H) : am_Sm xs am_ci mX10_item 2 0 0 0 [some (am_R l0), some (am_I l1), some (am_I l2), none] [] h (fxX10_item l0 l1 l2 h) := by
  unfold fxX10_item
  refine am_iload_n dX10_item_0 rfl ?_
  refine am_callS (cvj := am_ci) (mtj := mX10_isSlot) (dj := 1) (nj := 1) (rcj := 0) (rsj := 0) (rc' := 0) (rs' := 0) (st' := fun a9 => (am_I a9 :: [])) [am_I l1] [] dX10_item_1 okX10_isSlot lk_RX10_286 (fun zA zH zE => txX10_isSlot l1 h zA zH zE) rfl (fun _ => rfl) (by decide) rfl (Nat.le_of_ble_eq_true rfl) (by decide) (by decide) (fun r1 h2 => ?_)
  refine am_if_ne (tgt := 10) dX10_item_4 (by decide) (fun c10 => ?_) (fun c10 => ?_)
  · refine am_aload_n dX10_item_10 rfl ?_
    refine am_getR dX10_item_11 fk_RX10_66 rfl ?_
    refine am_iload_n dX10_item_14 rfl ?_
    refine am_iald dX10_item_15 ?_
    refine am_if_ne (tgt := 22) dX10_item_16 (by decide) (fun c9 => ?_) (fun c9 => ?_)
    · refine am_aload_n dX10_item_22 rfl ?_
      refine am_getR dX10_item_23 fk_RX10_66 rfl ?_
      refine am_iload_n dX10_item_26 rfl ?_
      refine am_iald dX10_item_27 ?_
      refine am_iconst (v := 2) dX10_item_28 (by decide) ?_
      refine am_icmp_eq (tgt := 35) dX10_item_29 (by decide) (fun c8 => ?_) (fun c8 => ?_)
      · refine am_iload_n dX10_item_35 rfl ?_
        refine am_iconst (v := 0) dX10_item_36 (by decide) ?_
        refine am_aload_n dX10_item_37 rfl ?_
        refine am_getR dX10_item_38 fk_RX10_69 rfl ?_
        refine am_iload_n dX10_item_41 rfl ?_
        refine am_iald dX10_item_42 ?_
        refine am_iconst (v := 1) dX10_item_43 (by decide) ?_
        refine am_isub dX10_item_44 ?_
        refine am_callS (cvj := am_ci) (mtj := mX10_in) (dj := 0) (nj := 3) (rcj := 0) (rsj := 0) (rc' := 0) (rs' := 0) (st' := fun a9 => (am_I a9 :: [])) [am_I l2, am_I (0 : Int32), am_I ((am_gi h2 (am_gr h2 l0 30) l1.toNatClampNeg) - (1 : Int32))] [] dX10_item_45 okX10_in lk_RX10_85 (fun zA zH zE => txX10_in l2 (0 : Int32) ((am_gi h2 (am_gr h2 l0 30) l1.toNatClampNeg) - (1 : Int32)) h2 zA zH zE) rfl (fun _ => rfl) (by decide) rfl (Nat.le_of_ble_eq_true rfl) (by decide) (by decide) (fun r3 h4 => ?_)
        refine am_if_ne (tgt := 55) dX10_item_48 (by decide) (fun c7 => ?_) (fun c7 => ?_)
        · refine am_aload_n dX10_item_55 rfl ?_
          refine am_getR dX10_item_56 fk_RX10_75 rfl ?_
          refine am_bipush (v := 24) dX10_item_59 (by decide) ?_
          refine am_iload_n dX10_item_61 rfl ?_
          refine am_imul dX10_item_62 ?_
          refine am_iload_n dX10_item_63 rfl ?_
          refine am_iadd dX10_item_64 ?_
          refine am_iald dX10_item_65 ?_
          refine am_istore_n (LL := fun y9 => [some (am_R l0), some (am_I l1), some (am_I l2), some (am_I y9)]) dX10_item_66 (by decide) (fun _ => rfl) (fun x5 => ?_)
          refine am_iload_n dX10_item_67 rfl ?_
          refine am_ldc (v := (-1000000005)) dX10_item_68 wd1143 ?_
          refine am_icmp_ne (tgt := 78) dX10_item_70 (by decide) (fun c6 => ?_) (fun c6 => ?_)
          · refine am_iload_n dX10_item_78 rfl ?_
            exact am_iret dX10_item_79 rfl rfl
          refine am_ldc (v := (-1000000012)) dX10_item_73 wd1093 ?_
          refine am_goto (tgt := 79) dX10_item_75 (by decide) ?_
          exact am_iret dX10_item_79 rfl rfl
        refine am_ldcw (v := (-1000000013)) dX10_item_51 wd1367 ?_
        exact am_iret dX10_item_54 rfl rfl
      refine am_ldc (v := (-1000000012)) dX10_item_32 wd1093 ?_
      exact am_iret dX10_item_34 rfl rfl
    refine am_ldc (v := (-1000000011)) dX10_item_19 wd1194 ?_
    exact am_iret dX10_item_21 rfl rfl
  refine am_ldc (v := (-1000000001)) dX10_item_7 wd1060 ?_
  exact am_iret dX10_item_9 rfl rfl
theorem txX10_item {xs : List Int32} (l0 : Option Nat) (l1 : Int32) (l2 : Int32) (h : am_H) (a : Int32) (h2 : am_H) (e : fxX10_item l0 l1 l2 h = some (a, h2)) : am_Ct xs mX10_item 2 0 0 [am_R l0, am_I l1, am_I l2] h (fun v h3 => v = am_ci a ∧ h3 = h2) := am_meth okX10_item (Nat.le_of_ble_eq_true rfl) rfl (sxX10_item l0 l1 l2 h) e
theorem dX10_rest_0 : am_at cX10_rest 0 (.iload_n 1) 1 1 := by decide +kernel
theorem dX10_rest_1 : am_at cX10_rest 1 (.invokestatic 286) 3 4 := by decide +kernel
theorem dX10_rest_4 : am_at cX10_rest 4 (.ifCond .ne 6) 3 7 := by decide +kernel
theorem dX10_rest_7 : am_at cX10_rest 7 (.ldc 93) 2 9 := by decide +kernel
theorem dX10_rest_9 : am_at cX10_rest 9 (.ireturn) 1 10 := by decide +kernel
theorem dX10_rest_10 : am_at cX10_rest 10 (.aload_n 0) 1 11 := by decide +kernel
theorem dX10_rest_11 : am_at cX10_rest 11 (.getfield 66) 3 14 := by decide +kernel
theorem dX10_rest_14 : am_at cX10_rest 14 (.iload_n 1) 1 15 := by decide +kernel
theorem dX10_rest_15 : am_at cX10_rest 15 (.iaload) 1 16 := by decide +kernel
theorem dX10_rest_16 : am_at cX10_rest 16 (.ifCond .ne 6) 3 19 := by decide +kernel
theorem dX10_rest_19 : am_at cX10_rest 19 (.ldc 170) 2 21 := by decide +kernel
theorem dX10_rest_21 : am_at cX10_rest 21 (.ireturn) 1 22 := by decide +kernel
theorem dX10_rest_22 : am_at cX10_rest 22 (.aload_n 0) 1 23 := by decide +kernel
theorem dX10_rest_23 : am_at cX10_rest 23 (.getfield 66) 3 26 := by decide +kernel
theorem dX10_rest_26 : am_at cX10_rest 26 (.iload_n 1) 1 27 := by decide +kernel
theorem dX10_rest_27 : am_at cX10_rest 27 (.iaload) 1 28 := by decide +kernel
theorem dX10_rest_28 : am_at cX10_rest 28 (.iconst 3) 1 29 := by decide +kernel
theorem dX10_rest_29 : am_at cX10_rest 29 (.if_icmp .eq 6) 3 32 := by decide +kernel
theorem dX10_rest_32 : am_at cX10_rest 32 (.ldc 115) 2 34 := by decide +kernel
theorem dX10_rest_34 : am_at cX10_rest 34 (.ireturn) 1 35 := by decide +kernel
theorem dX10_rest_35 : am_at cX10_rest 35 (.iload_n 2) 1 36 := by decide +kernel
theorem dX10_rest_36 : am_at cX10_rest 36 (.ifCond .ne 9) 3 39 := by decide +kernel
theorem dX10_rest_39 : am_at cX10_rest 39 (.ldc_w 289) 3 42 := by decide +kernel
theorem dX10_rest_42 : am_at cX10_rest 42 (.goto 20) 3 45 := by decide +kernel
theorem dX10_rest_45 : am_at cX10_rest 45 (.iload_n 2) 1 46 := by decide +kernel
theorem dX10_rest_46 : am_at cX10_rest 46 (.iconst (-1)) 1 47 := by decide +kernel
theorem dX10_rest_47 : am_at cX10_rest 47 (.if_icmp .ne 7) 3 50 := by decide +kernel
theorem dX10_rest_50 : am_at cX10_rest 50 (.iconst 0) 1 51 := by decide +kernel
theorem dX10_rest_51 : am_at cX10_rest 51 (.goto 11) 3 54 := by decide +kernel
theorem dX10_rest_54 : am_at cX10_rest 54 (.aload_n 0) 1 55 := by decide +kernel
theorem dX10_rest_55 : am_at cX10_rest 55 (.getfield 69) 3 58 := by decide +kernel
theorem dX10_rest_58 : am_at cX10_rest 58 (.iload_n 1) 1 59 := by decide +kernel
theorem dX10_rest_59 : am_at cX10_rest 59 (.iaload) 1 60 := by decide +kernel
theorem dX10_rest_60 : am_at cX10_rest 60 (.iload_n 2) 1 61 := by decide +kernel
theorem dX10_rest_61 : am_at cX10_rest 61 (.irem) 1 62 := by decide +kernel
theorem dX10_rest_62 : am_at cX10_rest 62 (.ireturn) 1 63 := by decide +kernel
def fxX10_rest (l0 : Option Nat) (l1 : Int32) (l2 : Int32) (h : am_H) : Option (Int32 × am_H) := am_bd (fxX10_isSlot l1 h) (fun r1 h2 => if r1 = 0 then (some ((-1000000001 : Int32), h2)) else (am_gd (am_ob h2 l0 10) (am_gd (am_ix h2 (am_gr h2 l0 29) 0 l1) (if (am_gi h2 (am_gr h2 l0 29) l1.toNatClampNeg) = 0 then (some ((-1000000011 : Int32), h2)) else (am_gd (am_ob h2 l0 10) (am_gd (am_ix h2 (am_gr h2 l0 29) 0 l1) (if (am_gi h2 (am_gr h2 l0 29) l1.toNatClampNeg) = (3 : Int32) then (if l2 = 0 then (some ((-1000000002 : Int32), h2)) else (if l2 = (-1 : Int32) then (some ((0 : Int32), h2)) else (am_gd (am_ob h2 l0 10) (am_gd (am_ix h2 (am_gr h2 l0 30) 0 l1) (am_gd (am_nz l2) (some ((am_rem (am_gi h2 (am_gr h2 l0 30) l1.toNatClampNeg) l2), h2))))))) else (some ((-1000000012 : Int32), h2)))))))))
set_option maxRecDepth 100000 in
theorem sxX10_rest {xs : List Int32} (l0 : Option Nat) (l1 : Int32) (l2 : Int32) (h : am_H) : am_Sm xs am_ci mX10_rest 2 0 0 0 [some (am_R l0), some (am_I l1), some (am_I l2)] [] h (fxX10_rest l0 l1 l2 h) := by
  unfold fxX10_rest
  refine am_iload_n dX10_rest_0 rfl ?_
  refine am_callS (cvj := am_ci) (mtj := mX10_isSlot) (dj := 1) (nj := 1) (rcj := 0) (rsj := 0) (rc' := 0) (rs' := 0) (st' := fun a9 => (am_I a9 :: [])) [am_I l1] [] dX10_rest_1 okX10_isSlot lk_RX10_286 (fun zA zH zE => txX10_isSlot l1 h zA zH zE) rfl (fun _ => rfl) (by decide) rfl (Nat.le_of_ble_eq_true rfl) (by decide) (by decide) (fun r1 h2 => ?_)
  refine am_if_ne (tgt := 10) dX10_rest_4 (by decide) (fun c7 => ?_) (fun c7 => ?_)
  · refine am_aload_n dX10_rest_10 rfl ?_
    refine am_getR dX10_rest_11 fk_RX10_66 rfl ?_
    refine am_iload_n dX10_rest_14 rfl ?_
    refine am_iald dX10_rest_15 ?_
    refine am_if_ne (tgt := 22) dX10_rest_16 (by decide) (fun c6 => ?_) (fun c6 => ?_)
    · refine am_aload_n dX10_rest_22 rfl ?_
      refine am_getR dX10_rest_23 fk_RX10_66 rfl ?_
      refine am_iload_n dX10_rest_26 rfl ?_
      refine am_iald dX10_rest_27 ?_
      refine am_iconst (v := 3) dX10_rest_28 (by decide) ?_
      refine am_icmp_eq (tgt := 35) dX10_rest_29 (by decide) (fun c5 => ?_) (fun c5 => ?_)
      · refine am_iload_n dX10_rest_35 rfl ?_
        refine am_if_ne (tgt := 45) dX10_rest_36 (by decide) (fun c4 => ?_) (fun c4 => ?_)
        · refine am_iload_n dX10_rest_45 rfl ?_
          refine am_iconst (v := (-1)) dX10_rest_46 (by decide) ?_
          refine am_icmp_ne (tgt := 54) dX10_rest_47 (by decide) (fun c3 => ?_) (fun c3 => ?_)
          · refine am_aload_n dX10_rest_54 rfl ?_
            refine am_getR dX10_rest_55 fk_RX10_69 rfl ?_
            refine am_iload_n dX10_rest_58 rfl ?_
            refine am_iald dX10_rest_59 ?_
            refine am_iload_n dX10_rest_60 rfl ?_
            refine am_irem dX10_rest_61 ?_
            exact am_iret dX10_rest_62 rfl rfl
          refine am_iconst (v := 0) dX10_rest_50 (by decide) ?_
          refine am_goto (tgt := 62) dX10_rest_51 (by decide) ?_
          exact am_iret dX10_rest_62 rfl rfl
        refine am_ldcw (v := (-1000000002)) dX10_rest_39 wd1401 ?_
        refine am_goto (tgt := 62) dX10_rest_42 (by decide) ?_
        exact am_iret dX10_rest_62 rfl rfl
      refine am_ldc (v := (-1000000012)) dX10_rest_32 wd1093 ?_
      exact am_iret dX10_rest_34 rfl rfl
    refine am_ldc (v := (-1000000011)) dX10_rest_19 wd1194 ?_
    exact am_iret dX10_rest_21 rfl rfl
  refine am_ldc (v := (-1000000001)) dX10_rest_7 wd1060 ?_
  exact am_iret dX10_rest_9 rfl rfl
theorem txX10_rest {xs : List Int32} (l0 : Option Nat) (l1 : Int32) (l2 : Int32) (h : am_H) (a : Int32) (h2 : am_H) (e : fxX10_rest l0 l1 l2 h = some (a, h2)) : am_Ct xs mX10_rest 2 0 0 [am_R l0, am_I l1, am_I l2] h (fun v h3 => v = am_ci a ∧ h3 = h2) := am_meth okX10_rest (Nat.le_of_ble_eq_true rfl) rfl (sxX10_rest l0 l1 l2 h) e
