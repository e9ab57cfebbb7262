theorem dX9_ask_0 : am_at cX9_ask 0 (.iload_n 1) 1 1 := by decide +kernel
theorem dX9_ask_1 : am_at cX9_ask 1 (.invokestatic 299) 3 4 := by decide +kernel
theorem dX9_ask_4 : am_at cX9_ask 4 (.ifCond .eq 10) 3 7 := by decide +kernel
theorem dX9_ask_7 : am_at cX9_ask 7 (.iload_n 2) 1 8 := by decide +kernel
theorem dX9_ask_8 : am_at cX9_ask 8 (.invokestatic 76) 3 11 := by decide +kernel
theorem dX9_ask_11 : am_at cX9_ask 11 (.ifCond .ne 6) 3 14 := by decide +kernel
theorem dX9_ask_14 : am_at cX9_ask 14 (.ldc 84) 2 16 := by decide +kernel
theorem dX9_ask_16 : am_at cX9_ask 16 (.ireturn) 1 17 := by decide +kernel
theorem dX9_ask_17 : am_at cX9_ask 17 (.aload_n 0) 1 18 := by decide +kernel
theorem dX9_ask_18 : am_at cX9_ask 18 (.getfield 63) 3 21 := by decide +kernel
theorem dX9_ask_21 : am_at cX9_ask 21 (.iload_n 1) 1 22 := by decide +kernel
theorem dX9_ask_22 : am_at cX9_ask 22 (.aaload) 1 23 := by decide +kernel
theorem dX9_ask_23 : am_at cX9_ask 23 (.astore_n 3) 1 24 := by decide +kernel
theorem dX9_ask_24 : am_at cX9_ask 24 (.aload_n 3) 1 25 := by decide +kernel
theorem dX9_ask_25 : am_at cX9_ask 25 (.iconst 1) 1 26 := by decide +kernel
theorem dX9_ask_26 : am_at cX9_ask 26 (.invokevirtual 324) 3 29 := by decide +kernel
theorem dX9_ask_29 : am_at cX9_ask 29 (.istore 4) 2 31 := by decide +kernel
theorem dX9_ask_31 : am_at cX9_ask 31 (.iload 4) 2 33 := by decide +kernel
theorem dX9_ask_33 : am_at cX9_ask 33 (.ifCond .eq 6) 3 36 := by decide +kernel
theorem dX9_ask_36 : am_at cX9_ask 36 (.iload 4) 2 38 := by decide +kernel
theorem dX9_ask_38 : am_at cX9_ask 38 (.ireturn) 1 39 := by decide +kernel
theorem dX9_ask_39 : am_at cX9_ask 39 (.aload_n 3) 1 40 := by decide +kernel
theorem dX9_ask_40 : am_at cX9_ask 40 (.getfield 308) 3 43 := by decide +kernel
theorem dX9_ask_43 : am_at cX9_ask 43 (.iload_n 2) 1 44 := by decide +kernel
theorem dX9_ask_44 : am_at cX9_ask 44 (.invokevirtual 109) 3 47 := by decide +kernel
theorem dX9_ask_47 : am_at cX9_ask 47 (.ifCond .eq 13) 3 50 := by decide +kernel
theorem dX9_ask_50 : am_at cX9_ask 50 (.aload_n 3) 1 51 := by decide +kernel
theorem dX9_ask_51 : am_at cX9_ask 51 (.getfield 308) 3 54 := by decide +kernel
theorem dX9_ask_54 : am_at cX9_ask 54 (.invokevirtual 101) 3 57 := by decide +kernel
theorem dX9_ask_57 : am_at cX9_ask 57 (.goto 5) 3 60 := by decide +kernel
theorem dX9_ask_60 : am_at cX9_ask 60 (.ldc 115) 2 62 := by decide +kernel
theorem dX9_ask_62 : am_at cX9_ask 62 (.ireturn) 1 63 := by decide +kernel
def fxX9_ask (l0 : Option Nat) (l1 : Int32) (l2 : Int32) (h : am_H) : Option (Int32 × am_H) := am_bd (fxX9_isSlot l1 h) (fun r1 h2 => if r1 = 0 then (some ((-1000000001 : Int32), h2)) else (am_bd (fxX9_isKind l2 h2) (fun r3 h4 => if r3 = 0 then (some ((-1000000001 : Int32), h4)) else (am_gd (am_ob h4 l0 9) (am_gd (am_ix h4 (am_gr h4 l0 9) 6 l1) (am_lt (am_gr h4 (am_gr h4 l0 9) l1.toNatClampNeg) (fun q5 => am_gd (am_ob h4 q5 6) (am_bd (fxX6_findingFor q5 (1 : Int32) h4) (fun r6 h7 => am_lt r6 (fun x8 => if x8 = 0 then (am_gd (am_ob h7 q5 6) (am_gd (am_ob h7 (am_gr h7 q5 1) 1) (am_bd (fxX1_isOf (am_gr h7 q5 1) l2 h7) (fun r9 h10 => if r9 = 0 then (some ((-1000000012 : Int32), h10)) else (am_gd (am_ob h10 q5 6) (am_gd (am_ob h10 (am_gr h10 q5 1) 1) (am_bd (fxX1_worth (am_gr h10 q5 1) h10) (fun r11 h12 => some (r11, h12))))))))) else (some (x8, h7))))))))))))
set_option maxRecDepth 100000 in
theorem sxX9_ask {xs : List Int32} (l0 : Option Nat) (l1 : Int32) (l2 : Int32) (h : am_H) : am_Sm xs am_ci mX9_ask 3 0 0 0 [some (am_R l0), some (am_I l1), some (am_I l2), none, none] [] h (fxX9_ask l0 l1 l2 h) := by
  unfold fxX9_ask
  refine am_iload_n dX9_ask_0 rfl ?_
  refine am_callS (cvj := am_ci) (mtj := mX9_isSlot) (dj := 1) (nj := 1) (rcj := 0) (rsj := 0) (rc' := 0) (rs' := 0) (st' := fun a9 => (am_I a9 :: [])) [am_I l1] [] dX9_ask_1 okX9_isSlot lk_RX9_299 (fun zA zH zE => txX9_isSlot l1 h zA zH zE) rfl (fun _ => rfl) (by decide) rfl (Nat.le_of_ble_eq_true rfl) (by decide) (by decide) (fun r1 h2 => ?_)
  refine am_if_eq (tgt := 14) dX9_ask_4 (by decide) (fun c16 => ?_) (fun c16 => ?_)
  · refine am_ldc (v := (-1000000001)) dX9_ask_14 wd316 ?_
    exact am_iret dX9_ask_16 rfl rfl
  refine am_iload_n dX9_ask_7 rfl ?_
  refine am_callS (cvj := am_ci) (mtj := mX9_isKind) (dj := 1) (nj := 1) (rcj := 0) (rsj := 0) (rc' := 0) (rs' := 0) (st' := fun a9 => (am_I a9 :: [])) [am_I l2] [] dX9_ask_8 okX9_isKind lk_RX9_76 (fun zA zH zE => txX9_isKind l2 h2 zA zH zE) rfl (fun _ => rfl) (by decide) rfl (Nat.le_of_ble_eq_true rfl) (by decide) (by decide) (fun r3 h4 => ?_)
  refine am_if_ne (tgt := 17) dX9_ask_11 (by decide) (fun c15 => ?_) (fun c15 => ?_)
  · refine am_aload_n dX9_ask_17 rfl ?_
    refine am_getR dX9_ask_18 fk_RX9_63 rfl ?_
    refine am_iload_n dX9_ask_21 rfl ?_
    refine am_aald (t := 6) dX9_ask_22 (by decide) (by decide) ?_
    refine am_astore_n (LL := fun y9 => [some (am_R l0), some (am_I l1), some (am_I l2), some (am_R y9), none]) dX9_ask_23 (by decide) (fun _ => rfl) (fun q5 => ?_)
    refine am_aload_n dX9_ask_24 rfl ?_
    refine am_iconst (v := 1) dX9_ask_25 (by decide) ?_
    refine am_callV (cvj := am_ci) (mtj := mX6_findingFor) (dj := 0) (nj := 1) (rcj := 0) (rsj := 0) (rc' := 0) (rs' := 0) (ci := 6) (st' := fun a9 => (am_I a9 :: [])) ⟨_, rfl, rfl⟩ [am_I (1 : Int32)] [] dX9_ask_26 okX6_findingFor lk_RX9_324 (fun zA zH zE => txX6_findingFor q5 (1 : Int32) h4 zA zH zE) rfl (fun _ => rfl) (by decide) rfl (Nat.le_of_ble_eq_true rfl) (by decide) (by decide) (fun r6 h7 => ?_)
    refine am_istore (LL := fun y9 => [some (am_R l0), some (am_I l1), some (am_I l2), some (am_R q5), some (am_I y9)]) dX9_ask_29 (by decide) (fun _ => rfl) (fun x8 => ?_)
    refine am_iload dX9_ask_31 rfl ?_
    refine am_if_eq (tgt := 39) dX9_ask_33 (by decide) (fun c14 => ?_) (fun c14 => ?_)
    · refine am_aload_n dX9_ask_39 rfl ?_
      refine am_getR dX9_ask_40 fk_RX9_308 rfl ?_
      refine am_iload_n dX9_ask_43 rfl ?_
      refine am_callV (cvj := am_ci) (mtj := mX1_isOf) (dj := 2) (nj := 1) (rcj := 0) (rsj := 0) (rc' := 0) (rs' := 0) (ci := 1) (st' := fun a9 => (am_I a9 :: [])) ⟨_, rfl, rfl⟩ [am_I l2] [] dX9_ask_44 okX1_isOf lk_RX9_109 (fun zA zH zE => txX1_isOf (am_gr h7 q5 1) l2 h7 zA zH zE) rfl (fun _ => rfl) (by decide) rfl (Nat.le_of_ble_eq_true rfl) (by decide) (by decide) (fun r9 h10 => ?_)
      refine am_if_eq (tgt := 60) dX9_ask_47 (by decide) (fun c13 => ?_) (fun c13 => ?_)
      · refine am_ldc (v := (-1000000012)) dX9_ask_60 wd354 ?_
        exact am_iret dX9_ask_62 rfl rfl
      refine am_aload_n dX9_ask_50 rfl ?_
      refine am_getR dX9_ask_51 fk_RX9_308 rfl ?_
      refine am_callV (cvj := am_ci) (mtj := mX1_worth) (dj := 0) (nj := 0) (rcj := 0) (rsj := 0) (rc' := 0) (rs' := 0) (ci := 1) (st' := fun a9 => (am_I a9 :: [])) ⟨_, rfl, rfl⟩ [] [] dX9_ask_54 okX1_worth lk_RX9_101 (fun zA zH zE => txX1_worth (am_gr h10 q5 1) h10 zA zH zE) rfl (fun _ => rfl) (by decide) rfl (Nat.le_of_ble_eq_true rfl) (by decide) (by decide) (fun r11 h12 => ?_)
      refine am_goto (tgt := 62) dX9_ask_57 (by decide) ?_
      exact am_iret dX9_ask_62 rfl rfl
    refine am_iload dX9_ask_36 rfl ?_
    exact am_iret dX9_ask_38 rfl rfl
  refine am_ldc (v := (-1000000001)) dX9_ask_14 wd316 ?_
  exact am_iret dX9_ask_16 rfl rfl
theorem txX9_ask {xs : List Int32} (l0 : Option Nat) (l1 : Int32) (l2 : Int32) (h : am_H) (a : Int32) (h2 : am_H) (e : fxX9_ask l0 l1 l2 h = some (a, h2)) : am_Ct xs mX9_ask 3 0 0 [am_R l0, am_I l1, am_I l2] h (fun v h3 => v = am_ci a ∧ h3 = h2) := am_meth okX9_ask (Nat.le_of_ble_eq_true rfl) rfl (sxX9_ask l0 l1 l2 h) e
theorem dX9_item_0 : am_at cX9_item 0 (.iload_n 1) 1 1 := by decide +kernel
theorem dX9_item_1 : am_at cX9_item 1 (.invokestatic 299) 3 4 := by decide +kernel
theorem dX9_item_4 : am_at cX9_item 4 (.ifCond .ne 6) 3 7 := by decide +kernel
theorem dX9_item_7 : am_at cX9_item 7 (.ldc 84) 2 9 := by decide +kernel
theorem dX9_item_9 : am_at cX9_item 9 (.ireturn) 1 10 := by decide +kernel
theorem dX9_item_10 : am_at cX9_item 10 (.aload_n 0) 1 11 := by decide +kernel
theorem dX9_item_11 : am_at cX9_item 11 (.getfield 63) 3 14 := by decide +kernel
theorem dX9_item_14 : am_at cX9_item 14 (.iload_n 1) 1 15 := by decide +kernel
theorem dX9_item_15 : am_at cX9_item 15 (.aaload) 1 16 := by decide +kernel
theorem dX9_item_16 : am_at cX9_item 16 (.astore_n 3) 1 17 := by decide +kernel
theorem dX9_item_17 : am_at cX9_item 17 (.aload_n 3) 1 18 := by decide +kernel
theorem dX9_item_18 : am_at cX9_item 18 (.iconst 2) 1 19 := by decide +kernel
theorem dX9_item_19 : am_at cX9_item 19 (.invokevirtual 324) 3 22 := by decide +kernel
theorem dX9_item_22 : am_at cX9_item 22 (.istore 4) 2 24 := by decide +kernel
theorem dX9_item_24 : am_at cX9_item 24 (.iload 4) 2 26 := by decide +kernel
theorem dX9_item_26 : am_at cX9_item 26 (.ifCond .eq 6) 3 29 := by decide +kernel
theorem dX9_item_29 : am_at cX9_item 29 (.iload 4) 2 31 := by decide +kernel
theorem dX9_item_31 : am_at cX9_item 31 (.ireturn) 1 32 := by decide +kernel
theorem dX9_item_32 : am_at cX9_item 32 (.aload_n 3) 1 33 := by decide +kernel
theorem dX9_item_33 : am_at cX9_item 33 (.getfield 315) 3 36 := by decide +kernel
theorem dX9_item_36 : am_at cX9_item 36 (.iload_n 2) 1 37 := by decide +kernel
theorem dX9_item_37 : am_at cX9_item 37 (.invokevirtual 266) 3 40 := by decide +kernel
theorem dX9_item_40 : am_at cX9_item 40 (.ifCond .ne 7) 3 43 := by decide +kernel
theorem dX9_item_43 : am_at cX9_item 43 (.ldc_w 269) 3 46 := by decide +kernel
theorem dX9_item_46 : am_at cX9_item 46 (.ireturn) 1 47 := by decide +kernel
theorem dX9_item_47 : am_at cX9_item 47 (.aload_n 3) 1 48 := by decide +kernel
theorem dX9_item_48 : am_at cX9_item 48 (.getfield 315) 3 51 := by decide +kernel
theorem dX9_item_51 : am_at cX9_item 51 (.iload_n 2) 1 52 := by decide +kernel
theorem dX9_item_52 : am_at cX9_item 52 (.invokevirtual 278) 3 55 := by decide +kernel
theorem dX9_item_55 : am_at cX9_item 55 (.ifCond .eq 15) 3 58 := by decide +kernel
theorem dX9_item_58 : am_at cX9_item 58 (.aload_n 3) 1 59 := by decide +kernel
theorem dX9_item_59 : am_at cX9_item 59 (.getfield 315) 3 62 := by decide +kernel
theorem dX9_item_62 : am_at cX9_item 62 (.getfield 275) 3 65 := by decide +kernel
theorem dX9_item_65 : am_at cX9_item 65 (.iload_n 2) 1 66 := by decide +kernel
theorem dX9_item_66 : am_at cX9_item 66 (.iaload) 1 67 := by decide +kernel
theorem dX9_item_67 : am_at cX9_item 67 (.goto 5) 3 70 := by decide +kernel
theorem dX9_item_70 : am_at cX9_item 70 (.ldc 115) 2 72 := by decide +kernel
theorem dX9_item_72 : am_at cX9_item 72 (.ireturn) 1 73 := by decide +kernel
def fxX9_item (l0 : Option Nat) (l1 : Int32) (l2 : Int32) (h : am_H) : Option (Int32 × am_H) := am_bd (fxX9_isSlot l1 h) (fun r1 h2 => if r1 = 0 then (some ((-1000000001 : Int32), h2)) else (am_gd (am_ob h2 l0 9) (am_gd (am_ix h2 (am_gr h2 l0 9) 6 l1) (am_lt (am_gr h2 (am_gr h2 l0 9) l1.toNatClampNeg) (fun q3 => am_gd (am_ob h2 q3 6) (am_bd (fxX6_findingFor q3 (2 : Int32) h2) (fun r4 h5 => am_lt r4 (fun x6 => if x6 = 0 then (am_gd (am_ob h5 q3 6) (am_gd (am_ob h5 (am_gr h5 q3 2) 5) (am_bd (fxX5_hasPlace (am_gr h5 q3 2) l2 h5) (fun r7 h8 => if r7 = 0 then (some ((-1000000013 : Int32), h8)) else (am_gd (am_ob h8 q3 6) (am_gd (am_ob h8 (am_gr h8 q3 2) 5) (am_bd (fxX5_hasNumber (am_gr h8 q3 2) l2 h8) (fun r9 h10 => if r9 = 0 then (some ((-1000000012 : Int32), h10)) else (am_gd (am_ob h10 q3 6) (am_gd (am_ob h10 (am_gr h10 q3 2) 5) (am_gd (am_ix h10 (am_gr h10 (am_gr h10 q3 2) 2) 0 l2) (some ((am_gi h10 (am_gr h10 (am_gr h10 q3 2) 2) l2.toNatClampNeg), h10))))))))))))) else (some (x6, h5))))))))))
set_option maxRecDepth 100000 in
theorem sxX9_item {xs : List Int32} (l0 : Option Nat) (l1 : Int32) (l2 : Int32) (h : am_H) : am_Sm xs am_ci mX9_item 3 0 0 0 [some (am_R l0), some (am_I l1), some (am_I l2), none, none] [] h (fxX9_item l0 l1 l2 h) := by
  unfold fxX9_item
  refine am_iload_n dX9_item_0 rfl ?_
  refine am_callS (cvj := am_ci) (mtj := mX9_isSlot) (dj := 1) (nj := 1) (rcj := 0) (rsj := 0) (rc' := 0) (rs' := 0) (st' := fun a9 => (am_I a9 :: [])) [am_I l1] [] dX9_item_1 okX9_isSlot lk_RX9_299 (fun zA zH zE => txX9_isSlot l1 h zA zH zE) rfl (fun _ => rfl) (by decide) rfl (Nat.le_of_ble_eq_true rfl) (by decide) (by decide) (fun r1 h2 => ?_)
  refine am_if_ne (tgt := 10) dX9_item_4 (by decide) (fun c14 => ?_) (fun c14 => ?_)
  · refine am_aload_n dX9_item_10 rfl ?_
    refine am_getR dX9_item_11 fk_RX9_63 rfl ?_
    refine am_iload_n dX9_item_14 rfl ?_
    refine am_aald (t := 6) dX9_item_15 (by decide) (by decide) ?_
    refine am_astore_n (LL := fun y9 => [some (am_R l0), some (am_I l1), some (am_I l2), some (am_R y9), none]) dX9_item_16 (by decide) (fun _ => rfl) (fun q3 => ?_)
    refine am_aload_n dX9_item_17 rfl ?_
    refine am_iconst (v := 2) dX9_item_18 (by decide) ?_
    refine am_callV (cvj := am_ci) (mtj := mX6_findingFor) (dj := 0) (nj := 1) (rcj := 0) (rsj := 0) (rc' := 0) (rs' := 0) (ci := 6) (st' := fun a9 => (am_I a9 :: [])) ⟨_, rfl, rfl⟩ [am_I (2 : Int32)] [] dX9_item_19 okX6_findingFor lk_RX9_324 (fun zA zH zE => txX6_findingFor q3 (2 : Int32) h2 zA zH zE) rfl (fun _ => rfl) (by decide) rfl (Nat.le_of_ble_eq_true rfl) (by decide) (by decide) (fun r4 h5 => ?_)
    refine am_istore (LL := fun y9 => [some (am_R l0), some (am_I l1), some (am_I l2), some (am_R q3), some (am_I y9)]) dX9_item_22 (by decide) (fun _ => rfl) (fun x6 => ?_)
    refine am_iload dX9_item_24 rfl ?_
    refine am_if_eq (tgt := 32) dX9_item_26 (by decide) (fun c13 => ?_) (fun c13 => ?_)
    · refine am_aload_n dX9_item_32 rfl ?_
      refine am_getR dX9_item_33 fk_RX9_315 rfl ?_
      refine am_iload_n dX9_item_36 rfl ?_
      refine am_callV (cvj := am_ci) (mtj := mX5_hasPlace) (dj := 1) (nj := 1) (rcj := 0) (rsj := 0) (rc' := 0) (rs' := 0) (ci := 5) (st' := fun a9 => (am_I a9 :: [])) ⟨_, rfl, rfl⟩ [am_I l2] [] dX9_item_37 okX5_hasPlace lk_RX9_266 (fun zA zH zE => txX5_hasPlace (am_gr h5 q3 2) l2 h5 zA zH zE) rfl (fun _ => rfl) (by decide) rfl (Nat.le_of_ble_eq_true rfl) (by decide) (by decide) (fun r7 h8 => ?_)
      refine am_if_ne (tgt := 47) dX9_item_40 (by decide) (fun c12 => ?_) (fun c12 => ?_)
      · refine am_aload_n dX9_item_47 rfl ?_
        refine am_getR dX9_item_48 fk_RX9_315 rfl ?_
        refine am_iload_n dX9_item_51 rfl ?_
        refine am_callV (cvj := am_ci) (mtj := mX5_hasNumber) (dj := 2) (nj := 1) (rcj := 0) (rsj := 0) (rc' := 0) (rs' := 0) (ci := 5) (st' := fun a9 => (am_I a9 :: [])) ⟨_, rfl, rfl⟩ [am_I l2] [] dX9_item_52 okX5_hasNumber lk_RX9_278 (fun zA zH zE => txX5_hasNumber (am_gr h8 q3 2) l2 h8 zA zH zE) rfl (fun _ => rfl) (by decide) rfl (Nat.le_of_ble_eq_true rfl) (by decide) (by decide) (fun r9 h10 => ?_)
        refine am_if_eq (tgt := 70) dX9_item_55 (by decide) (fun c11 => ?_) (fun c11 => ?_)
        · refine am_ldc (v := (-1000000012)) dX9_item_70 wd354 ?_
          exact am_iret dX9_item_72 rfl rfl
        refine am_aload_n dX9_item_58 rfl ?_
        refine am_getR dX9_item_59 fk_RX9_315 rfl ?_
        refine am_getR dX9_item_62 fk_RX9_275 rfl ?_
        refine am_iload_n dX9_item_65 rfl ?_
        refine am_iald dX9_item_66 ?_
        refine am_goto (tgt := 72) dX9_item_67 (by decide) ?_
        exact am_iret dX9_item_72 rfl rfl
      refine am_ldcw (v := (-1000000013)) dX9_item_43 wd852 ?_
      exact am_iret dX9_item_46 rfl rfl
    refine am_iload dX9_item_29 rfl ?_
    exact am_iret dX9_item_31 rfl rfl
  refine am_ldc (v := (-1000000001)) dX9_item_7 wd316 ?_
  exact am_iret dX9_item_9 rfl rfl
theorem txX9_item {xs : List Int32} (l0 : Option Nat) (l1 : Int32) (l2 : Int32) (h : am_H) (a : Int32) (h2 : am_H) (e : fxX9_item l0 l1 l2 h = some (a, h2)) : am_Ct xs mX9_item 3 0 0 [am_R l0, am_I l1, am_I l2] h (fun v h3 => v = am_ci a ∧ h3 = h2) := am_meth okX9_item (Nat.le_of_ble_eq_true rfl) rfl (sxX9_item l0 l1 l2 h) e
theorem dX9_rest_0 : am_at cX9_rest 0 (.iload_n 1) 1 1 := by decide +kernel
theorem dX9_rest_1 : am_at cX9_rest 1 (.invokestatic 299) 3 4 := by decide +kernel
theorem dX9_rest_4 : am_at cX9_rest 4 (.ifCond .ne 6) 3 7 := by decide +kernel
theorem dX9_rest_7 : am_at cX9_rest 7 (.ldc 84) 2 9 := by decide +kernel
theorem dX9_rest_9 : am_at cX9_rest 9 (.ireturn) 1 10 := by decide +kernel
theorem dX9_rest_10 : am_at cX9_rest 10 (.aload_n 0) 1 11 := by decide +kernel
theorem dX9_rest_11 : am_at cX9_rest 11 (.getfield 63) 3 14 := by decide +kernel
theorem dX9_rest_14 : am_at cX9_rest 14 (.iload_n 1) 1 15 := by decide +kernel
theorem dX9_rest_15 : am_at cX9_rest 15 (.aaload) 1 16 := by decide +kernel
theorem dX9_rest_16 : am_at cX9_rest 16 (.astore_n 3) 1 17 := by decide +kernel
theorem dX9_rest_17 : am_at cX9_rest 17 (.aload_n 3) 1 18 := by decide +kernel
theorem dX9_rest_18 : am_at cX9_rest 18 (.iconst 3) 1 19 := by decide +kernel
theorem dX9_rest_19 : am_at cX9_rest 19 (.invokevirtual 324) 3 22 := by decide +kernel
theorem dX9_rest_22 : am_at cX9_rest 22 (.istore 4) 2 24 := by decide +kernel
theorem dX9_rest_24 : am_at cX9_rest 24 (.iload 4) 2 26 := by decide +kernel
theorem dX9_rest_26 : am_at cX9_rest 26 (.ifCond .eq 6) 3 29 := by decide +kernel
theorem dX9_rest_29 : am_at cX9_rest 29 (.iload 4) 2 31 := by decide +kernel
theorem dX9_rest_31 : am_at cX9_rest 31 (.ireturn) 1 32 := by decide +kernel
theorem dX9_rest_32 : am_at cX9_rest 32 (.iload_n 2) 1 33 := by decide +kernel
theorem dX9_rest_33 : am_at cX9_rest 33 (.ifCond .ne 9) 3 36 := by decide +kernel
theorem dX9_rest_36 : am_at cX9_rest 36 (.ldc_w 327) 3 39 := by decide +kernel
theorem dX9_rest_39 : am_at cX9_rest 39 (.goto 9) 3 42 := by decide +kernel
theorem dX9_rest_42 : am_at cX9_rest 42 (.aload_n 3) 1 43 := by decide +kernel
theorem dX9_rest_43 : am_at cX9_rest 43 (.getfield 321) 3 46 := by decide +kernel
theorem dX9_rest_46 : am_at cX9_rest 46 (.iload_n 2) 1 47 := by decide +kernel
theorem dX9_rest_47 : am_at cX9_rest 47 (.irem) 1 48 := by decide +kernel
theorem dX9_rest_48 : am_at cX9_rest 48 (.ireturn) 1 49 := by decide +kernel
def fxX9_rest (l0 : Option Nat) (l1 : Int32) (l2 : Int32) (h : am_H) : Option (Int32 × am_H) := am_bd (fxX9_isSlot l1 h) (fun r1 h2 => if r1 = 0 then (some ((-1000000001 : Int32), h2)) else (am_gd (am_ob h2 l0 9) (am_gd (am_ix h2 (am_gr h2 l0 9) 6 l1) (am_lt (am_gr h2 (am_gr h2 l0 9) l1.toNatClampNeg) (fun q3 => am_gd (am_ob h2 q3 6) (am_bd (fxX6_findingFor q3 (3 : Int32) h2) (fun r4 h5 => am_lt r4 (fun x6 => if x6 = 0 then (if l2 = 0 then (some ((-1000000002 : Int32), h5)) else (am_gd (am_ob h5 q3 6) (am_gd (am_nz l2) (some ((am_rem (am_gi h5 q3 3) l2), h5))))) else (some (x6, h5))))))))))
set_option maxRecDepth 100000 in
theorem sxX9_rest {xs : List Int32} (l0 : Option Nat) (l1 : Int32) (l2 : Int32) (h : am_H) : am_Sm xs am_ci mX9_rest 2 0 0 0 [some (am_R l0), some (am_I l1), some (am_I l2), none, none] [] h (fxX9_rest l0 l1 l2 h) := by
  unfold fxX9_rest
  refine am_iload_n dX9_rest_0 rfl ?_
  refine am_callS (cvj := am_ci) (mtj := mX9_isSlot) (dj := 1) (nj := 1) (rcj := 0) (rsj := 0) (rc' := 0) (rs' := 0) (st' := fun a9 => (am_I a9 :: [])) [am_I l1] [] dX9_rest_1 okX9_isSlot lk_RX9_299 (fun zA zH zE => txX9_isSlot l1 h zA zH zE) rfl (fun _ => rfl) (by decide) rfl (Nat.le_of_ble_eq_true rfl) (by decide) (by decide) (fun r1 h2 => ?_)
  refine am_if_ne (tgt := 10) dX9_rest_4 (by decide) (fun c9 => ?_) (fun c9 => ?_)
  · refine am_aload_n dX9_rest_10 rfl ?_
    refine am_getR dX9_rest_11 fk_RX9_63 rfl ?_
    refine am_iload_n dX9_rest_14 rfl ?_
    refine am_aald (t := 6) dX9_rest_15 (by decide) (by decide) ?_
    refine am_astore_n (LL := fun y9 => [some (am_R l0), some (am_I l1), some (am_I l2), some (am_R y9), none]) dX9_rest_16 (by decide) (fun _ => rfl) (fun q3 => ?_)
    refine am_aload_n dX9_rest_17 rfl ?_
    refine am_iconst (v := 3) dX9_rest_18 (by decide) ?_
    refine am_callV (cvj := am_ci) (mtj := mX6_findingFor) (dj := 0) (nj := 1) (rcj := 0) (rsj := 0) (rc' := 0) (rs' := 0) (ci := 6) (st' := fun a9 => (am_I a9 :: [])) ⟨_, rfl, rfl⟩ [am_I (3 : Int32)] [] dX9_rest_19 okX6_findingFor lk_RX9_324 (fun zA zH zE => txX6_findingFor q3 (3 : Int32) h2 zA zH zE) rfl (fun _ => rfl) (by decide) rfl (Nat.le_of_ble_eq_true rfl) (by decide) (by decide) (fun r4 h5 => ?_)
    refine am_istore (LL := fun y9 => [some (am_R l0), some (am_I l1), some (am_I l2), some (am_R q3), some (am_I y9)]) dX9_rest_22 (by decide) (fun _ => rfl) (fun x6 => ?_)
    refine am_iload dX9_rest_24 rfl ?_
    refine am_if_eq (tgt := 32) dX9_rest_26 (by decide) (fun c8 => ?_) (fun c8 => ?_)
    · refine am_iload_n dX9_rest_32 rfl ?_
      refine am_if_ne (tgt := 42) dX9_rest_33 (by decide) (fun c7 => ?_) (fun c7 => ?_)
      · refine am_aload_n dX9_rest_42 rfl ?_
        refine am_getI dX9_rest_43 fk_RX9_321 rfl ?_
        refine am_iload_n dX9_rest_46 rfl ?_
        refine am_irem dX9_rest_47 ?_
        exact am_iret dX9_rest_48 rfl rfl
      refine am_ldcw (v := (-1000000002)) dX9_rest_36 wd911 ?_
      refine am_goto (tgt := 48) dX9_rest_39 (by decide) ?_
      exact am_iret dX9_rest_48 rfl rfl
    refine am_iload dX9_rest_29 rfl ?_
    exact am_iret dX9_rest_31 rfl rfl
  refine am_ldc (v := (-1000000001)) dX9_rest_7 wd316 ?_
  exact am_iret dX9_rest_9 rfl rfl
theorem txX9_rest {xs : List Int32} (l0 : Option Nat) (l1 : Int32) (l2 : Int32) (h : am_H) (a : Int32) (h2 : am_H) (e : fxX9_rest l0 l1 l2 h = some (a, h2)) : am_Ct xs mX9_rest 2 0 0 [am_R l0, am_I l1, am_I l2] h (fun v h3 => v = am_ci a ∧ h3 = h2) := am_meth okX9_rest (Nat.le_of_ble_eq_true rfl) rfl (sxX9_rest l0 l1 l2 h) e
theorem dX9_tell_0 : am_at cX9_tell 0 (.aload_n 0) 1 1 := by decide +kernel
theorem dX9_tell_1 : am_at cX9_tell 1 (.getfield 72) 3 4 := by decide +kernel
theorem dX9_tell_4 : am_at cX9_tell 4 (.bipush 60) 2 6 := by decide +kernel
theorem dX9_tell_6 : am_at cX9_tell 6 (.if_icmp .lt 6) 3 9 := by decide +kernel
theorem dX9_tell_9 : am_at cX9_tell 9 (.ldc 235) 2 11 := by decide +kernel
theorem dX9_tell_11 : am_at cX9_tell 11 (.ireturn) 1 12 := by decide +kernel
theorem dX9_tell_12 : am_at cX9_tell 12 (.aload_n 0) 1 13 := by decide +kernel
theorem dX9_tell_13 : am_at cX9_tell 13 (.getfield 68) 3 16 := by decide +kernel
theorem dX9_tell_16 : am_at cX9_tell 16 (.aload_n 0) 1 17 := by decide +kernel
theorem dX9_tell_17 : am_at cX9_tell 17 (.getfield 72) 3 20 := by decide +kernel
theorem dX9_tell_20 : am_at cX9_tell 20 (.iload_n 1) 1 21 := by decide +kernel
theorem dX9_tell_21 : am_at cX9_tell 21 (.iastore) 1 22 := by decide +kernel
theorem dX9_tell_22 : am_at cX9_tell 22 (.aload_n 0) 1 23 := by decide +kernel
theorem dX9_tell_23 : am_at cX9_tell 23 (.dup) 1 24 := by decide +kernel
theorem dX9_tell_24 : am_at cX9_tell 24 (.getfield 72) 3 27 := by decide +kernel
theorem dX9_tell_27 : am_at cX9_tell 27 (.iconst 1) 1 28 := by decide +kernel
theorem dX9_tell_28 : am_at cX9_tell 28 (.iadd) 1 29 := by decide +kernel
theorem dX9_tell_29 : am_at cX9_tell 29 (.putfield 72) 3 32 := by decide +kernel
theorem dX9_tell_32 : am_at cX9_tell 32 (.aload_n 0) 1 33 := by decide +kernel
theorem dX9_tell_33 : am_at cX9_tell 33 (.getfield 72) 3 36 := by decide +kernel
theorem dX9_tell_36 : am_at cX9_tell 36 (.ireturn) 1 37 := by decide +kernel
def fxX9_tell (l0 : Option Nat) (l1 : Int32) (h : am_H) : Option (Int32 × am_H) := am_gd (am_ob h l0 9) (if (am_gi h l0 11) < (60 : Int32) then (am_gd (am_ob h l0 9) (am_gd (am_ob h l0 9) (am_gd (am_ix h (am_gr h l0 10) 0 (am_gi h l0 11)) (am_lt (am_si h (am_gr h l0 10) (am_gi h l0 11).toNatClampNeg l1) (fun h1 => am_gd (am_ob h1 l0 9) (am_gd (am_ob h1 l0 9) (am_lt (am_si h1 l0 11 ((am_gi h1 l0 11) + (1 : Int32))) (fun h2 => am_gd (am_ob h2 l0 9) (some ((am_gi h2 l0 11), h2)))))))))) else (some ((-1000000003 : Int32), h)))
set_option maxRecDepth 100000 in
theorem sxX9_tell {xs : List Int32} (l0 : Option Nat) (l1 : Int32) (h : am_H) : am_Sm xs am_ci mX9_tell 0 0 0 0 [some (am_R l0), some (am_I l1)] [] h (fxX9_tell l0 l1 h) := by
  unfold fxX9_tell
  refine am_aload_n dX9_tell_0 rfl ?_
  refine am_getI dX9_tell_1 fk_RX9_72 rfl ?_
  refine am_bipush (v := 60) dX9_tell_4 (by decide) ?_
  refine am_icmp_lt (tgt := 12) dX9_tell_6 (by decide) (fun c3 => ?_) (fun c3 => ?_)
  · refine am_aload_n dX9_tell_12 rfl ?_
    refine am_getR dX9_tell_13 fk_RX9_68 rfl ?_
    refine am_aload_n dX9_tell_16 rfl ?_
    refine am_getI dX9_tell_17 fk_RX9_72 rfl ?_
    refine am_iload_n dX9_tell_20 rfl ?_
    refine am_iast dX9_tell_21 (fun h1 => ?_)
    refine am_aload_n dX9_tell_22 rfl ?_
    refine am_dup dX9_tell_23 ?_
    refine am_getI dX9_tell_24 fk_RX9_72 rfl ?_
    refine am_iconst (v := 1) dX9_tell_27 (by decide) ?_
    refine am_iadd dX9_tell_28 ?_
    refine am_putI dX9_tell_29 fk_RX9_72 ⟨_, rfl, Or.inl rfl⟩ rfl (fun h2 => ?_)
    refine am_aload_n dX9_tell_32 rfl ?_
    refine am_getI dX9_tell_33 fk_RX9_72 rfl ?_
    exact am_iret dX9_tell_36 rfl rfl
  refine am_ldc (v := (-1000000003)) dX9_tell_9 wd631 ?_
  exact am_iret dX9_tell_11 rfl rfl
theorem txX9_tell {xs : List Int32} (l0 : Option Nat) (l1 : Int32) (h : am_H) (a : Int32) (h2 : am_H) (e : fxX9_tell l0 l1 h = some (a, h2)) : am_Ct xs mX9_tell 0 0 0 [am_R l0, am_I l1] h (fun v h3 => v = am_ci a ∧ h3 = h2) := am_meth okX9_tell (Nat.le_of_ble_eq_true rfl) rfl (sxX9_tell l0 l1 h) e
theorem dX9_isTold_0 : am_at cX9_isTold 0 (.iload_n 1) 1 1 := by decide +kernel
theorem dX9_isTold_1 : am_at cX9_isTold 1 (.iload_n 2) 1 2 := by decide +kernel
theorem dX9_isTold_2 : am_at cX9_isTold 2 (.if_icmp .ge 23) 3 5 := by decide +kernel
theorem dX9_isTold_5 : am_at cX9_isTold 5 (.iload_n 1) 1 6 := by decide +kernel
theorem dX9_isTold_6 : am_at cX9_isTold 6 (.bipush 60) 2 8 := by decide +kernel
theorem dX9_isTold_8 : am_at cX9_isTold 8 (.if_icmp .ge 17) 3 11 := by decide +kernel
theorem dX9_isTold_11 : am_at cX9_isTold 11 (.aload_n 0) 1 12 := by decide +kernel
theorem dX9_isTold_12 : am_at cX9_isTold 12 (.getfield 68) 3 15 := by decide +kernel
theorem dX9_isTold_15 : am_at cX9_isTold 15 (.iload_n 1) 1 16 := by decide +kernel
theorem dX9_isTold_16 : am_at cX9_isTold 16 (.iaload) 1 17 := by decide +kernel
theorem dX9_isTold_17 : am_at cX9_isTold 17 (.iload_n 3) 1 18 := by decide +kernel
theorem dX9_isTold_18 : am_at cX9_isTold 18 (.if_icmp .ne 7) 3 21 := by decide +kernel
theorem dX9_isTold_21 : am_at cX9_isTold 21 (.iconst 1) 1 22 := by decide +kernel
theorem dX9_isTold_22 : am_at cX9_isTold 22 (.goto 4) 3 25 := by decide +kernel
theorem dX9_isTold_25 : am_at cX9_isTold 25 (.iconst 0) 1 26 := by decide +kernel
theorem dX9_isTold_26 : am_at cX9_isTold 26 (.ireturn) 1 27 := by decide +kernel
def fxX9_isTold (l0 : Option Nat) (l1 : Int32) (l2 : Int32) (l3 : Int32) (h : am_H) : Option (Int32 × am_H) := if l2 ≤ l1 then (am_gd (am_bz (0 : Int32)) (some ((0 : Int32), h))) else (if (60 : Int32) ≤ l1 then (am_gd (am_bz (0 : Int32)) (some ((0 : Int32), h))) else (am_gd (am_ob h l0 9) (am_gd (am_ix h (am_gr h l0 10) 0 l1) (if (am_gi h (am_gr h l0 10) l1.toNatClampNeg) = l3 then (am_gd (am_bz (1 : Int32)) (some ((1 : Int32), h))) else (am_gd (am_bz (0 : Int32)) (some ((0 : Int32), h)))))))
set_option maxRecDepth 100000 in
theorem sxX9_isTold {xs : List Int32} (l0 : Option Nat) (l1 : Int32) (l2 : Int32) (l3 : Int32) (h : am_H) : am_Sm xs am_ci mX9_isTold 0 0 0 0 [some (am_R l0), some (am_I l1), some (am_I l2), some (am_I l3)] [] h (fxX9_isTold l0 l1 l2 l3 h) := by
  unfold fxX9_isTold
  refine am_iload_n dX9_isTold_0 rfl ?_
  refine am_iload_n dX9_isTold_1 rfl ?_
  refine am_icmp_ge (tgt := 25) dX9_isTold_2 (by decide) (fun c3 => ?_) (fun c3 => ?_)
  · refine am_iconst (v := 0) dX9_isTold_25 (by decide) ?_
    exact am_zret dX9_isTold_26 rfl rfl
  refine am_iload_n dX9_isTold_5 rfl ?_
  refine am_bipush (v := 60) dX9_isTold_6 (by decide) ?_
  refine am_icmp_ge (tgt := 25) dX9_isTold_8 (by decide) (fun c2 => ?_) (fun c2 => ?_)
  · refine am_iconst (v := 0) dX9_isTold_25 (by decide) ?_
    exact am_zret dX9_isTold_26 rfl rfl
  refine am_aload_n dX9_isTold_11 rfl ?_
  refine am_getR dX9_isTold_12 fk_RX9_68 rfl ?_
  refine am_iload_n dX9_isTold_15 rfl ?_
  refine am_iald dX9_isTold_16 ?_
  refine am_iload_n dX9_isTold_17 rfl ?_
  refine am_icmp_ne (tgt := 25) dX9_isTold_18 (by decide) (fun c1 => ?_) (fun c1 => ?_)
  · refine am_iconst (v := 0) dX9_isTold_25 (by decide) ?_
    exact am_zret dX9_isTold_26 rfl rfl
  refine am_iconst (v := 1) dX9_isTold_21 (by decide) ?_
  refine am_goto (tgt := 26) dX9_isTold_22 (by decide) ?_
  exact am_zret dX9_isTold_26 rfl rfl
theorem txX9_isTold {xs : List Int32} (l0 : Option Nat) (l1 : Int32) (l2 : Int32) (l3 : Int32) (h : am_H) (a : Int32) (h2 : am_H) (e : fxX9_isTold l0 l1 l2 l3 h = some (a, h2)) : am_Ct xs mX9_isTold 0 0 0 [am_R l0, am_I l1, am_I l2, am_I l3] h (fun v h3 => v = am_ci a ∧ h3 = h2) := am_meth okX9_isTold (Nat.le_of_ble_eq_true rfl) rfl (sxX9_isTold l0 l1 l2 l3 h) e
theorem dX9_check_0 : am_at cX9_check 0 (.aload_n 0) 1 1 := by decide +kernel
theorem dX9_check_1 : am_at cX9_check 1 (.getfield 72) 3 4 := by decide +kernel
theorem dX9_check_4 : am_at cX9_check 4 (.istore_n 2) 1 5 := by decide +kernel
theorem dX9_check_5 : am_at cX9_check 5 (.aload_n 0) 1 6 := by decide +kernel
theorem dX9_check_6 : am_at cX9_check 6 (.iconst 0) 1 7 := by decide +kernel
theorem dX9_check_7 : am_at cX9_check 7 (.putfield 72) 3 10 := by decide +kernel
theorem dX9_check_10 : am_at cX9_check 10 (.iload_n 1) 1 11 := by decide +kernel
theorem dX9_check_11 : am_at cX9_check 11 (.iconst 1) 1 12 := by decide +kernel
theorem dX9_check_12 : am_at cX9_check 12 (.bipush 30) 2 14 := by decide +kernel
theorem dX9_check_14 : am_at cX9_check 14 (.invokestatic 80) 3 17 := by decide +kernel
theorem dX9_check_17 : am_at cX9_check 17 (.ifCond .ne 6) 3 20 := by decide +kernel
theorem dX9_check_20 : am_at cX9_check 20 (.ldc 84) 2 22 := by decide +kernel
theorem dX9_check_22 : am_at cX9_check 22 (.ireturn) 1 23 := by decide +kernel
theorem dX9_check_23 : am_at cX9_check 23 (.aload_n 0) 1 24 := by decide +kernel
theorem dX9_check_24 : am_at cX9_check 24 (.getfield 22) 3 27 := by decide +kernel
theorem dX9_check_27 : am_at cX9_check 27 (.ifCond .ne 7) 3 30 := by decide +kernel
theorem dX9_check_30 : am_at cX9_check 30 (.ldc_w 327) 3 33 := by decide +kernel
theorem dX9_check_33 : am_at cX9_check 33 (.ireturn) 1 34 := by decide +kernel
theorem dX9_check_34 : am_at cX9_check 34 (.aload_n 0) 1 35 := by decide +kernel
theorem dX9_check_35 : am_at cX9_check 35 (.getfield 19) 3 38 := by decide +kernel
theorem dX9_check_38 : am_at cX9_check 38 (.aload_n 0) 1 39 := by decide +kernel
theorem dX9_check_39 : am_at cX9_check 39 (.getfield 16) 3 42 := by decide +kernel
theorem dX9_check_42 : am_at cX9_check 42 (.invokevirtual 192) 3 45 := by decide +kernel
theorem dX9_check_45 : am_at cX9_check 45 (.iload_n 1) 1 46 := by decide +kernel
theorem dX9_check_46 : am_at cX9_check 46 (.sipush 9999) 3 49 := by decide +kernel
theorem dX9_check_49 : am_at cX9_check 49 (.aload_n 0) 1 50 := by decide +kernel
theorem dX9_check_50 : am_at cX9_check 50 (.getfield 16) 3 53 := by decide +kernel
theorem dX9_check_53 : am_at cX9_check 53 (.getfield 185) 3 56 := by decide +kernel
theorem dX9_check_56 : am_at cX9_check 56 (.isub) 1 57 := by decide +kernel
theorem dX9_check_57 : am_at cX9_check 57 (.invokestatic 139) 3 60 := by decide +kernel
theorem dX9_check_60 : am_at cX9_check 60 (.istore_n 3) 1 61 := by decide +kernel
theorem dX9_check_61 : am_at cX9_check 61 (.iconst 0) 1 62 := by decide +kernel
theorem dX9_check_62 : am_at cX9_check 62 (.istore 4) 2 64 := by decide +kernel
theorem dX9_check_64 : am_at cX9_check 64 (.iload 4) 2 66 := by decide +kernel
theorem dX9_check_66 : am_at cX9_check 66 (.iload_n 3) 1 67 := by decide +kernel
theorem dX9_check_67 : am_at cX9_check 67 (.if_icmp .ge 76) 3 70 := by decide +kernel
theorem dX9_check_70 : am_at cX9_check 70 (.aload_n 0) 1 71 := by decide +kernel
theorem dX9_check_71 : am_at cX9_check 71 (.getfield 19) 3 74 := by decide +kernel
theorem dX9_check_74 : am_at cX9_check 74 (.iconst 1) 1 75 := by decide +kernel
theorem dX9_check_75 : am_at cX9_check 75 (.iconst (-1)) 1 76 := by decide +kernel
theorem dX9_check_76 : am_at cX9_check 76 (.aload_n 0) 1 77 := by decide +kernel
theorem dX9_check_77 : am_at cX9_check 77 (.getfield 29) 3 80 := by decide +kernel
theorem dX9_check_80 : am_at cX9_check 80 (.invokevirtual 188) 3 83 := by decide +kernel
theorem dX9_check_83 : am_at cX9_check 83 (.aload_n 0) 1 84 := by decide +kernel
theorem dX9_check_84 : am_at cX9_check 84 (.iconst 2) 1 85 := by decide +kernel
theorem dX9_check_85 : am_at cX9_check 85 (.iload 4) 2 87 := by decide +kernel
theorem dX9_check_87 : am_at cX9_check 87 (.imul) 1 88 := by decide +kernel
theorem dX9_check_88 : am_at cX9_check 88 (.iload_n 2) 1 89 := by decide +kernel
theorem dX9_check_89 : am_at cX9_check 89 (.aload_n 0) 1 90 := by decide +kernel
theorem dX9_check_90 : am_at cX9_check 90 (.getfield 19) 3 93 := by decide +kernel
theorem dX9_check_93 : am_at cX9_check 93 (.invokevirtual 182) 3 96 := by decide +kernel
theorem dX9_check_96 : am_at cX9_check 96 (.invokevirtual 328) 3 99 := by decide +kernel
theorem dX9_check_99 : am_at cX9_check 99 (.ifCond .ne 10) 3 102 := by decide +kernel
theorem dX9_check_102 : am_at cX9_check 102 (.iconst 1) 1 103 := by decide +kernel
theorem dX9_check_103 : am_at cX9_check 103 (.iconst 2) 1 104 := by decide +kernel
theorem dX9_check_104 : am_at cX9_check 104 (.iload 4) 2 106 := by decide +kernel
theorem dX9_check_106 : am_at cX9_check 106 (.imul) 1 107 := by decide +kernel
theorem dX9_check_107 : am_at cX9_check 107 (.iadd) 1 108 := by decide +kernel
theorem dX9_check_108 : am_at cX9_check 108 (.ireturn) 1 109 := by decide +kernel
theorem dX9_check_109 : am_at cX9_check 109 (.aload_n 0) 1 110 := by decide +kernel
theorem dX9_check_110 : am_at cX9_check 110 (.iconst 2) 1 111 := by decide +kernel
theorem dX9_check_111 : am_at cX9_check 111 (.iload 4) 2 113 := by decide +kernel
theorem dX9_check_113 : am_at cX9_check 113 (.imul) 1 114 := by decide +kernel
theorem dX9_check_114 : am_at cX9_check 114 (.iconst 1) 1 115 := by decide +kernel
theorem dX9_check_115 : am_at cX9_check 115 (.iadd) 1 116 := by decide +kernel
theorem dX9_check_116 : am_at cX9_check 116 (.iload_n 2) 1 117 := by decide +kernel
theorem dX9_check_117 : am_at cX9_check 117 (.aload_n 0) 1 118 := by decide +kernel
theorem dX9_check_118 : am_at cX9_check 118 (.getfield 19) 3 121 := by decide +kernel
theorem dX9_check_121 : am_at cX9_check 121 (.invokevirtual 199) 3 124 := by decide +kernel
theorem dX9_check_124 : am_at cX9_check 124 (.invokevirtual 328) 3 127 := by decide +kernel
theorem dX9_check_127 : am_at cX9_check 127 (.ifCond .ne 10) 3 130 := by decide +kernel
theorem dX9_check_130 : am_at cX9_check 130 (.iconst 2) 1 131 := by decide +kernel
theorem dX9_check_131 : am_at cX9_check 131 (.iconst 2) 1 132 := by decide +kernel
theorem dX9_check_132 : am_at cX9_check 132 (.iload 4) 2 134 := by decide +kernel
theorem dX9_check_134 : am_at cX9_check 134 (.imul) 1 135 := by decide +kernel
theorem dX9_check_135 : am_at cX9_check 135 (.iadd) 1 136 := by decide +kernel
theorem dX9_check_136 : am_at cX9_check 136 (.ireturn) 1 137 := by decide +kernel
theorem dX9_check_137 : am_at cX9_check 137 (.iinc 4 1) 3 140 := by decide +kernel
theorem dX9_check_140 : am_at cX9_check 140 (.goto (-76)) 3 143 := by decide +kernel
theorem dX9_check_143 : am_at cX9_check 143 (.iload_n 2) 1 144 := by decide +kernel
theorem dX9_check_144 : am_at cX9_check 144 (.iconst 2) 1 145 := by decide +kernel
theorem dX9_check_145 : am_at cX9_check 145 (.iload_n 3) 1 146 := by decide +kernel
theorem dX9_check_146 : am_at cX9_check 146 (.imul) 1 147 := by decide +kernel
theorem dX9_check_147 : am_at cX9_check 147 (.if_icmp .le 11) 3 150 := by decide +kernel
theorem dX9_check_150 : am_at cX9_check 150 (.iconst 1) 1 151 := by decide +kernel
theorem dX9_check_151 : am_at cX9_check 151 (.iconst 2) 1 152 := by decide +kernel
theorem dX9_check_152 : am_at cX9_check 152 (.iload_n 3) 1 153 := by decide +kernel
theorem dX9_check_153 : am_at cX9_check 153 (.imul) 1 154 := by decide +kernel
theorem dX9_check_154 : am_at cX9_check 154 (.iadd) 1 155 := by decide +kernel
theorem dX9_check_155 : am_at cX9_check 155 (.goto 4) 3 158 := by decide +kernel
theorem dX9_check_158 : am_at cX9_check 158 (.iconst 0) 1 159 := by decide +kernel
theorem dX9_check_159 : am_at cX9_check 159 (.ireturn) 1 160 := by decide +kernel
def fxX9_check_b64 : Nat → Option Nat → Int32 → Int32 → Int32 → am_H → Option (Int32 × am_H)
  | 0, _, _, _, _, _ => none
  | n + 1, l0, l2, l3, l4, h => if l3 ≤ l4 then (if l2 ≤ ((2 : Int32) * l3) then (some ((0 : Int32), h)) else (some (((1 : Int32) + ((2 : Int32) * l3)), h))) else (am_gd (am_ob h l0 9) (am_gd (am_ob h l0 9) (am_gd (am_ob h (am_gr h l0 2) 2) (am_bd (fxX2_live (am_gr h l0 2) (1 : Int32) (-1 : Int32) (am_gr h l0 4) h) (fun _ h11 => am_gd (am_ob h11 l0 9) (am_gd (am_ob h11 (am_gr h11 l0 2) 2) (am_bd (fxX2_lostCount (am_gr h11 l0 2) h11) (fun r12 h13 => am_gd (am_ob h13 l0 9) (am_bd (fxX9_isTold l0 ((2 : Int32) * l4) l2 r12 h13) (fun r14 h15 => if r14 = 0 then (some (((1 : Int32) + ((2 : Int32) * l4)), h15)) else (am_gd (am_ob h15 l0 9) (am_gd (am_ob h15 (am_gr h15 l0 2) 2) (am_bd (fxX2_wearOfAll (am_gr h15 l0 2) h15) (fun r16 h17 => am_gd (am_ob h17 l0 9) (am_bd (fxX9_isTold l0 (((2 : Int32) * l4) + (1 : Int32)) l2 r16 h17) (fun r18 h19 => if r18 = 0 then (some (((2 : Int32) + ((2 : Int32) * l4)), h19)) else (am_lt (l4 + 1) (fun x20 => fxX9_check_b64 n l0 l2 l3 x20 h19))))))))))))))))))
set_option maxRecDepth 100000 in
theorem sxX9_check_b64 {xs : List Int32} : ∀ (n : Nat) (l0 : Option Nat) (l2 : Int32) (l3 : Int32) (l4 : Int32) (h : am_H), am_Sm xs am_ci mX9_check 5 0 0 64 [some (am_R l0), none, some (am_I l2), some (am_I l3), some (am_I l4)] [] h (fxX9_check_b64 n l0 l2 l3 l4 h) := by
  intro n
  induction n with
  | zero => intros; exact am_none
  | succ n ih =>
    intro l0 l2 l3 l4 h
    rw [fxX9_check_b64]
    refine am_iload dX9_check_64 rfl ?_
    refine am_iload_n dX9_check_66 rfl ?_
    refine am_icmp_ge (tgt := 143) dX9_check_67 (by decide) (fun c23 => ?_) (fun c23 => ?_)
    · refine am_iload_n dX9_check_143 rfl ?_
      refine am_iconst (v := 2) dX9_check_144 (by decide) ?_
      refine am_iload_n dX9_check_145 rfl ?_
      refine am_imul dX9_check_146 ?_
      refine am_icmp_le (tgt := 158) dX9_check_147 (by decide) (fun c10 => ?_) (fun c10 => ?_)
      · refine am_iconst (v := 0) dX9_check_158 (by decide) ?_
        exact am_iret dX9_check_159 rfl rfl
      refine am_iconst (v := 1) dX9_check_150 (by decide) ?_
      refine am_iconst (v := 2) dX9_check_151 (by decide) ?_
      refine am_iload_n dX9_check_152 rfl ?_
      refine am_imul dX9_check_153 ?_
      refine am_iadd dX9_check_154 ?_
      refine am_goto (tgt := 159) dX9_check_155 (by decide) ?_
      exact am_iret dX9_check_159 rfl rfl
    refine am_aload_n dX9_check_70 rfl ?_
    refine am_getR dX9_check_71 fk_RX9_19 rfl ?_
    refine am_iconst (v := 1) dX9_check_74 (by decide) ?_
    refine am_iconst (v := (-1)) dX9_check_75 (by decide) ?_
    refine am_aload_n dX9_check_76 rfl ?_
    refine am_getR dX9_check_77 fk_RX9_29 rfl ?_
    refine am_callV (cvj := am_cu) (mtj := mX2_live) (dj := 4) (nj := 3) (rcj := 0) (rsj := 0) (rc' := 0) (rs' := 0) (ci := 2) (st' := fun _ => []) ⟨_, rfl, rfl⟩ [am_I (1 : Int32), am_I (-1 : Int32), am_R (am_gr h l0 4)] [] dX9_check_80 okX2_live lk_RX9_188 (fun zA zH zE => txX2_live (am_gr h l0 2) (1 : Int32) (-1 : Int32) (am_gr h l0 4) h zA zH zE) rfl (fun _ => rfl) (by decide) rfl (Nat.le_of_ble_eq_true rfl) (by decide) (by decide) (fun _ h11 => ?_)
    refine am_aload_n dX9_check_83 rfl ?_
    refine am_iconst (v := 2) dX9_check_84 (by decide) ?_
    refine am_iload dX9_check_85 rfl ?_
    refine am_imul dX9_check_87 ?_
    refine am_iload_n dX9_check_88 rfl ?_
    refine am_aload_n dX9_check_89 rfl ?_
    refine am_getR dX9_check_90 fk_RX9_19 rfl ?_
    refine am_callV (cvj := am_ci) (mtj := mX2_lostCount) (dj := 0) (nj := 0) (rcj := 0) (rsj := 0) (rc' := 0) (rs' := 0) (ci := 2) (st' := fun a9 => (am_I a9 :: [am_I l2, am_I ((2 : Int32) * l4), am_R l0])) ⟨_, rfl, rfl⟩ [] [am_I l2, am_I ((2 : Int32) * l4), am_R l0] dX9_check_93 okX2_lostCount lk_RX9_182 (fun zA zH zE => txX2_lostCount (am_gr h11 l0 2) h11 zA zH zE) rfl (fun _ => rfl) (by decide) rfl (Nat.le_of_ble_eq_true rfl) (by decide) (by decide) (fun r12 h13 => ?_)
    refine am_callV (cvj := am_ci) (mtj := mX9_isTold) (dj := 0) (nj := 3) (rcj := 0) (rsj := 0) (rc' := 0) (rs' := 0) (ci := 9) (st' := fun a9 => (am_I a9 :: [])) ⟨_, rfl, rfl⟩ [am_I ((2 : Int32) * l4), am_I l2, am_I r12] [] dX9_check_96 okX9_isTold lk_RX9_328 (fun zA zH zE => txX9_isTold l0 ((2 : Int32) * l4) l2 r12 h13 zA zH zE) rfl (fun _ => rfl) (by decide) rfl (Nat.le_of_ble_eq_true rfl) (by decide) (by decide) (fun r14 h15 => ?_)
    refine am_if_ne (tgt := 109) dX9_check_99 (by decide) (fun c22 => ?_) (fun c22 => ?_)
    · refine am_aload_n dX9_check_109 rfl ?_
      refine am_iconst (v := 2) dX9_check_110 (by decide) ?_
      refine am_iload dX9_check_111 rfl ?_
      refine am_imul dX9_check_113 ?_
      refine am_iconst (v := 1) dX9_check_114 (by decide) ?_
      refine am_iadd dX9_check_115 ?_
      refine am_iload_n dX9_check_116 rfl ?_
      refine am_aload_n dX9_check_117 rfl ?_
      refine am_getR dX9_check_118 fk_RX9_19 rfl ?_
      refine am_callV (cvj := am_ci) (mtj := mX2_wearOfAll) (dj := 0) (nj := 0) (rcj := 0) (rsj := 0) (rc' := 0) (rs' := 0) (ci := 2) (st' := fun a9 => (am_I a9 :: [am_I l2, am_I (((2 : Int32) * l4) + (1 : Int32)), am_R l0])) ⟨_, rfl, rfl⟩ [] [am_I l2, am_I (((2 : Int32) * l4) + (1 : Int32)), am_R l0] dX9_check_121 okX2_wearOfAll lk_RX9_199 (fun zA zH zE => txX2_wearOfAll (am_gr h15 l0 2) h15 zA zH zE) rfl (fun _ => rfl) (by decide) rfl (Nat.le_of_ble_eq_true rfl) (by decide) (by decide) (fun r16 h17 => ?_)
      refine am_callV (cvj := am_ci) (mtj := mX9_isTold) (dj := 0) (nj := 3) (rcj := 0) (rsj := 0) (rc' := 0) (rs' := 0) (ci := 9) (st' := fun a9 => (am_I a9 :: [])) ⟨_, rfl, rfl⟩ [am_I (((2 : Int32) * l4) + (1 : Int32)), am_I l2, am_I r16] [] dX9_check_124 okX9_isTold lk_RX9_328 (fun zA zH zE => txX9_isTold l0 (((2 : Int32) * l4) + (1 : Int32)) l2 r16 h17 zA zH zE) rfl (fun _ => rfl) (by decide) rfl (Nat.le_of_ble_eq_true rfl) (by decide) (by decide) (fun r18 h19 => ?_)
      refine am_if_ne (tgt := 137) dX9_check_127 (by decide) (fun c21 => ?_) (fun c21 => ?_)
      · refine am_iinc (v := 1) (LL := fun y9 => [some (am_R l0), none, some (am_I l2), some (am_I l3), some (am_I y9)]) dX9_check_137 (by decide) rfl (by decide) (fun _ => rfl) (fun x20 => ?_)
        refine am_goto (tgt := 64) dX9_check_140 (by decide) ?_
        exact am_weak (ih l0 l2 l3 x20 h19) ⟨rfl, ⟨rfl, ⟨rfl, ⟨rfl, trivial⟩⟩⟩⟩ (Nat.le_refl _) (Nat.le_refl _)
      refine am_iconst (v := 2) dX9_check_130 (by decide) ?_
      refine am_iconst (v := 2) dX9_check_131 (by decide) ?_
      refine am_iload dX9_check_132 rfl ?_
      refine am_imul dX9_check_134 ?_
      refine am_iadd dX9_check_135 ?_
      exact am_iret dX9_check_136 rfl rfl
    refine am_iconst (v := 1) dX9_check_102 (by decide) ?_
    refine am_iconst (v := 2) dX9_check_103 (by decide) ?_
    refine am_iload dX9_check_104 rfl ?_
    refine am_imul dX9_check_106 ?_
    refine am_iadd dX9_check_107 ?_
    exact am_iret dX9_check_108 rfl rfl
def fxX9_check (l0 : Option Nat) (l1 : Int32) (h : am_H) : Option (Int32 × am_H) := am_gd (am_ob h l0 9) (am_lt (am_gi h l0 11) (fun x1 => am_gd (am_ob h l0 9) (am_lt (am_si h l0 11 (0 : Int32)) (fun h2 => am_bd (fxX9_within l1 (1 : Int32) (30 : Int32) h2) (fun r3 h4 => if r3 = 0 then (some ((-1000000001 : Int32), h4)) else (am_gd (am_ob h4 l0 9) (if (am_gi h4 l0 3) = 0 then (some ((-1000000002 : Int32), h4)) else (am_gd (am_ob h4 l0 9) (am_gd (am_ob h4 l0 9) (am_gd (am_ob h4 (am_gr h4 l0 2) 2) (am_bd (fxX2_takeAfter (am_gr h4 l0 2) (am_gr h4 l0 1) h4) (fun _ h5 => am_gd (am_ob h5 l0 9) (am_gd (am_ob h5 (am_gr h5 l0 1) 2) (am_lt (am_mmin l1 ((9999 : Int32) - (am_gi h5 (am_gr h5 l0 1) 3))) (fun x6 => am_lt (0 : Int32) (fun x7 => fxX9_check_b64 am_F l0 x1 x6 x7 h5))))))))))))))))
set_option maxRecDepth 100000 in
theorem sxX9_check {xs : List Int32} (l0 : Option Nat) (l1 : Int32) (h : am_H) : am_Sm xs am_ci mX9_check 5 0 0 0 [some (am_R l0), some (am_I l1), none, none, none] [] h (fxX9_check l0 l1 h) := by
  unfold fxX9_check
  refine am_aload_n dX9_check_0 rfl ?_
  refine am_getI dX9_check_1 fk_RX9_72 rfl ?_
  refine am_istore_n (LL := fun y9 => [some (am_R l0), some (am_I l1), some (am_I y9), none, none]) dX9_check_4 (by decide) (fun _ => rfl) (fun x1 => ?_)
  refine am_aload_n dX9_check_5 rfl ?_
  refine am_iconst (v := 0) dX9_check_6 (by decide) ?_
  refine am_putI dX9_check_7 fk_RX9_72 ⟨_, rfl, Or.inl rfl⟩ rfl (fun h2 => ?_)
  refine am_iload_n dX9_check_10 rfl ?_
  refine am_iconst (v := 1) dX9_check_11 (by decide) ?_
  refine am_bipush (v := 30) dX9_check_12 (by decide) ?_
  refine am_callS (cvj := am_ci) (mtj := mX9_within) (dj := 0) (nj := 3) (rcj := 0) (rsj := 0) (rc' := 0) (rs' := 0) (st' := fun a9 => (am_I a9 :: [])) [am_I l1, am_I (1 : Int32), am_I (30 : Int32)] [] dX9_check_14 okX9_within lk_RX9_80 (fun zA zH zE => txX9_within l1 (1 : Int32) (30 : Int32) h2 zA zH zE) rfl (fun _ => rfl) (by decide) rfl (Nat.le_of_ble_eq_true rfl) (by decide) (by decide) (fun r3 h4 => ?_)
  refine am_if_ne (tgt := 23) dX9_check_17 (by decide) (fun c9 => ?_) (fun c9 => ?_)
  · refine am_aload_n dX9_check_23 rfl ?_
    refine am_getI dX9_check_24 fk_RX9_22 rfl ?_
    refine am_if_ne (tgt := 34) dX9_check_27 (by decide) (fun c8 => ?_) (fun c8 => ?_)
    · refine am_aload_n dX9_check_34 rfl ?_
      refine am_getR dX9_check_35 fk_RX9_19 rfl ?_
      refine am_aload_n dX9_check_38 rfl ?_
      refine am_getR dX9_check_39 fk_RX9_16 rfl ?_
      refine am_callV (cvj := am_cu) (mtj := mX2_takeAfter) (dj := 2) (nj := 1) (rcj := 0) (rsj := 0) (rc' := 0) (rs' := 0) (ci := 2) (st' := fun _ => []) ⟨_, rfl, rfl⟩ [am_R (am_gr h4 l0 1)] [] dX9_check_42 okX2_takeAfter lk_RX9_192 (fun zA zH zE => txX2_takeAfter (am_gr h4 l0 2) (am_gr h4 l0 1) h4 zA zH zE) rfl (fun _ => rfl) (by decide) rfl (Nat.le_of_ble_eq_true rfl) (by decide) (by decide) (fun _ h5 => ?_)
      refine am_iload_n dX9_check_45 rfl ?_
      refine am_sipush (v := 9999) dX9_check_46 (by decide) ?_
      refine am_aload_n dX9_check_49 rfl ?_
      refine am_getR dX9_check_50 fk_RX9_16 rfl ?_
      refine am_getI dX9_check_53 fk_RX9_185 rfl ?_
      refine am_isub dX9_check_56 ?_
      refine am_mmin9 dX9_check_57 wd427 wd407 wd12 wd408 (by decide) (Nat.le_of_ble_eq_true rfl) ?_
      refine am_istore_n (LL := fun y9 => [some (am_R l0), some (am_I l1), some (am_I x1), some (am_I y9), none]) dX9_check_60 (by decide) (fun _ => rfl) (fun x6 => ?_)
      refine am_iconst (v := 0) dX9_check_61 (by decide) ?_
      refine am_istore (LL := fun y9 => [some (am_R l0), some (am_I l1), some (am_I x1), some (am_I x6), some (am_I y9)]) dX9_check_62 (by decide) (fun _ => rfl) (fun x7 => ?_)
      exact am_weak (sxX9_check_b64 am_F l0 x1 x6 x7 h5) ⟨rfl, ⟨rfl, ⟨rfl, ⟨rfl, trivial⟩⟩⟩⟩ (Nat.le_refl _) (Nat.le_refl _)
    refine am_ldcw (v := (-1000000002)) dX9_check_30 wd911 ?_
    exact am_iret dX9_check_33 rfl rfl
  refine am_ldc (v := (-1000000001)) dX9_check_20 wd316 ?_
  exact am_iret dX9_check_22 rfl rfl
theorem txX9_check {xs : List Int32} (l0 : Option Nat) (l1 : Int32) (h : am_H) (a : Int32) (h2 : am_H) (e : fxX9_check l0 l1 h = some (a, h2)) : am_Ct xs mX9_check 5 0 0 [am_R l0, am_I l1] h (fun v h3 => v = am_ci a ∧ h3 = h2) := am_meth okX9_check (Nat.le_of_ble_eq_true rfl) rfl (sxX9_check l0 l1 h) e
theorem dX9_keep_0 : am_at cX9_keep 0 (.aload_n 0) 1 1 := by decide +kernel
theorem dX9_keep_1 : am_at cX9_keep 1 (.getfield 16) 3 4 := by decide +kernel
theorem dX9_keep_4 : am_at cX9_keep 4 (.aload_n 0) 1 5 := by decide +kernel
theorem dX9_keep_5 : am_at cX9_keep 5 (.getfield 10) 3 8 := by decide +kernel
theorem dX9_keep_8 : am_at cX9_keep 8 (.invokevirtual 192) 3 11 := by decide +kernel
theorem dX9_keep_11 : am_at cX9_keep 11 (.aload_n 0) 1 12 := by decide +kernel
theorem dX9_keep_12 : am_at cX9_keep 12 (.iconst 1) 1 13 := by decide +kernel
theorem dX9_keep_13 : am_at cX9_keep 13 (.putfield 22) 3 16 := by decide +kernel
theorem dX9_keep_16 : am_at cX9_keep 16 (.aload_n 0) 1 17 := by decide +kernel
theorem dX9_keep_17 : am_at cX9_keep 17 (.getfield 10) 3 20 := by decide +kernel
theorem dX9_keep_20 : am_at cX9_keep 20 (.getfield 136) 3 23 := by decide +kernel
theorem dX9_keep_23 : am_at cX9_keep 23 (.ireturn) 1 24 := by decide +kernel
def fxX9_keep (l0 : Option Nat) (h : am_H) : Option (Int32 × am_H) := am_gd (am_ob h l0 9) (am_gd (am_ob h l0 9) (am_gd (am_ob h (am_gr h l0 1) 2) (am_bd (fxX2_takeAfter (am_gr h l0 1) (am_gr h l0 0) h) (fun _ h1 => am_gd (am_ob h1 l0 9 && am_bz (1 : Int32)) (am_lt (am_si h1 l0 3 (1 : Int32)) (fun h2 => am_gd (am_ob h2 l0 9) (am_gd (am_ob h2 (am_gr h2 l0 0) 2) (some ((am_gi h2 (am_gr h2 l0 0) 1), h2)))))))))
set_option maxRecDepth 100000 in
theorem sxX9_keep {xs : List Int32} (l0 : Option Nat) (h : am_H) : am_Sm xs am_ci mX9_keep 3 0 0 0 [some (am_R l0)] [] h (fxX9_keep l0 h) := by
  unfold fxX9_keep
  refine am_aload_n dX9_keep_0 rfl ?_
  refine am_getR dX9_keep_1 fk_RX9_16 rfl ?_
  refine am_aload_n dX9_keep_4 rfl ?_
  refine am_getR dX9_keep_5 fk_RX9_10 rfl ?_
  refine am_callV (cvj := am_cu) (mtj := mX2_takeAfter) (dj := 2) (nj := 1) (rcj := 0) (rsj := 0) (rc' := 0) (rs' := 0) (ci := 2) (st' := fun _ => []) ⟨_, rfl, rfl⟩ [am_R (am_gr h l0 0)] [] dX9_keep_8 okX2_takeAfter lk_RX9_192 (fun zA zH zE => txX2_takeAfter (am_gr h l0 1) (am_gr h l0 0) h zA zH zE) rfl (fun _ => rfl) (by decide) rfl (Nat.le_of_ble_eq_true rfl) (by decide) (by decide) (fun _ h1 => ?_)
  refine am_aload_n dX9_keep_11 rfl ?_
  refine am_iconst (v := 1) dX9_keep_12 (by decide) ?_
  refine am_putZ dX9_keep_13 fk_RX9_22 ⟨_, rfl, Or.inl rfl⟩ rfl (fun h2 => ?_)
  refine am_aload_n dX9_keep_16 rfl ?_
  refine am_getR dX9_keep_17 fk_RX9_10 rfl ?_
  refine am_getI dX9_keep_20 fk_RX9_136 rfl ?_
  exact am_iret dX9_keep_23 rfl rfl
theorem txX9_keep {xs : List Int32} (l0 : Option Nat) (h : am_H) (a : Int32) (h2 : am_H) (e : fxX9_keep l0 h = some (a, h2)) : am_Ct xs mX9_keep 3 0 0 [am_R l0] h (fun v h3 => v = am_ci a ∧ h3 = h2) := am_meth okX9_keep (Nat.le_of_ble_eq_true rfl) rfl (sxX9_keep l0 h) e
theorem dX9_back_0 : am_at cX9_back 0 (.aload_n 0) 1 1 := by decide +kernel
theorem dX9_back_1 : am_at cX9_back 1 (.getfield 22) 3 4 := by decide +kernel
theorem dX9_back_4 : am_at cX9_back 4 (.ifCond .ne 7) 3 7 := by decide +kernel
theorem dX9_back_7 : am_at cX9_back 7 (.ldc_w 327) 3 10 := by decide +kernel
theorem dX9_back_10 : am_at cX9_back 10 (.ireturn) 1 11 := by decide +kernel
theorem dX9_back_11 : am_at cX9_back 11 (.aload_n 0) 1 12 := by decide +kernel
theorem dX9_back_12 : am_at cX9_back 12 (.getfield 10) 3 15 := by decide +kernel
theorem dX9_back_15 : am_at cX9_back 15 (.aload_n 0) 1 16 := by decide +kernel
theorem dX9_back_16 : am_at cX9_back 16 (.getfield 16) 3 19 := by decide +kernel
theorem dX9_back_19 : am_at cX9_back 19 (.invokevirtual 192) 3 22 := by decide +kernel
theorem dX9_back_22 : am_at cX9_back 22 (.aload_n 0) 1 23 := by decide +kernel
theorem dX9_back_23 : am_at cX9_back 23 (.getfield 10) 3 26 := by decide +kernel
theorem dX9_back_26 : am_at cX9_back 26 (.getfield 136) 3 29 := by decide +kernel
theorem dX9_back_29 : am_at cX9_back 29 (.ireturn) 1 30 := by decide +kernel
def fxX9_back (l0 : Option Nat) (h : am_H) : Option (Int32 × am_H) := am_gd (am_ob h l0 9) (if (am_gi h l0 3) = 0 then (some ((-1000000002 : Int32), h)) else (am_gd (am_ob h l0 9) (am_gd (am_ob h l0 9) (am_gd (am_ob h (am_gr h l0 0) 2) (am_bd (fxX2_takeAfter (am_gr h l0 0) (am_gr h l0 1) h) (fun _ h1 => am_gd (am_ob h1 l0 9) (am_gd (am_ob h1 (am_gr h1 l0 0) 2) (some ((am_gi h1 (am_gr h1 l0 0) 1), h1)))))))))
set_option maxRecDepth 100000 in
theorem sxX9_back {xs : List Int32} (l0 : Option Nat) (h : am_H) : am_Sm xs am_ci mX9_back 3 0 0 0 [some (am_R l0)] [] h (fxX9_back l0 h) := by
  unfold fxX9_back
  refine am_aload_n dX9_back_0 rfl ?_
  refine am_getI dX9_back_1 fk_RX9_22 rfl ?_
  refine am_if_ne (tgt := 11) dX9_back_4 (by decide) (fun c2 => ?_) (fun c2 => ?_)
  · refine am_aload_n dX9_back_11 rfl ?_
    refine am_getR dX9_back_12 fk_RX9_10 rfl ?_
    refine am_aload_n dX9_back_15 rfl ?_
    refine am_getR dX9_back_16 fk_RX9_16 rfl ?_
    refine am_callV (cvj := am_cu) (mtj := mX2_takeAfter) (dj := 2) (nj := 1) (rcj := 0) (rsj := 0) (rc' := 0) (rs' := 0) (ci := 2) (st' := fun _ => []) ⟨_, rfl, rfl⟩ [am_R (am_gr h l0 1)] [] dX9_back_19 okX2_takeAfter lk_RX9_192 (fun zA zH zE => txX2_takeAfter (am_gr h l0 0) (am_gr h l0 1) h zA zH zE) rfl (fun _ => rfl) (by decide) rfl (Nat.le_of_ble_eq_true rfl) (by decide) (by decide) (fun _ h1 => ?_)
    refine am_aload_n dX9_back_22 rfl ?_
    refine am_getR dX9_back_23 fk_RX9_10 rfl ?_
    refine am_getI dX9_back_26 fk_RX9_136 rfl ?_
    exact am_iret dX9_back_29 rfl rfl
  refine am_ldcw (v := (-1000000002)) dX9_back_7 wd911 ?_
  exact am_iret dX9_back_10 rfl rfl
theorem txX9_back {xs : List Int32} (l0 : Option Nat) (h : am_H) (a : Int32) (h2 : am_H) (e : fxX9_back l0 h = some (a, h2)) : am_Ct xs mX9_back 3 0 0 [am_R l0] h (fun v h3 => v = am_ci a ∧ h3 = h2) := am_meth okX9_back (Nat.le_of_ble_eq_true rfl) rfl (sxX9_back l0 h) e
theorem dX9_count_0 : am_at cX9_count 0 (.iload_n 1) 1 1 := by decide +kernel
theorem dX9_count_1 : am_at cX9_count 1 (.tableswitch 120 0 8 #[51, 59, 67, 75, 83, 91, 99, 104, 112]) 51 52 := by decide +kernel
theorem dX9_count_52 : am_at cX9_count 52 (.aload_n 0) 1 53 := by decide +kernel
theorem dX9_count_53 : am_at cX9_count 53 (.getfield 10) 3 56 := by decide +kernel
theorem dX9_count_56 : am_at cX9_count 56 (.getfield 136) 3 59 := by decide +kernel
theorem dX9_count_59 : am_at cX9_count 59 (.ireturn) 1 60 := by decide +kernel
theorem dX9_count_60 : am_at cX9_count 60 (.aload_n 0) 1 61 := by decide +kernel
theorem dX9_count_61 : am_at cX9_count 61 (.getfield 10) 3 64 := by decide +kernel
theorem dX9_count_64 : am_at cX9_count 64 (.invokevirtual 182) 3 67 := by decide +kernel
theorem dX9_count_67 : am_at cX9_count 67 (.ireturn) 1 68 := by decide +kernel
theorem dX9_count_68 : am_at cX9_count 68 (.aload_n 0) 1 69 := by decide +kernel
theorem dX9_count_69 : am_at cX9_count 69 (.getfield 10) 3 72 := by decide +kernel
theorem dX9_count_72 : am_at cX9_count 72 (.getfield 185) 3 75 := by decide +kernel
theorem dX9_count_75 : am_at cX9_count 75 (.ireturn) 1 76 := by decide +kernel
theorem dX9_count_76 : am_at cX9_count 76 (.aload_n 0) 1 77 := by decide +kernel
theorem dX9_count_77 : am_at cX9_count 77 (.getfield 10) 3 80 := by decide +kernel
theorem dX9_count_80 : am_at cX9_count 80 (.getfield 179) 3 83 := by decide +kernel
theorem dX9_count_83 : am_at cX9_count 83 (.ireturn) 1 84 := by decide +kernel
theorem dX9_count_84 : am_at cX9_count 84 (.aload_n 0) 1 85 := by decide +kernel
theorem dX9_count_85 : am_at cX9_count 85 (.getfield 10) 3 88 := by decide +kernel
theorem dX9_count_88 : am_at cX9_count 88 (.getfield 214) 3 91 := by decide +kernel
theorem dX9_count_91 : am_at cX9_count 91 (.ireturn) 1 92 := by decide +kernel
theorem dX9_count_92 : am_at cX9_count 92 (.aload_n 0) 1 93 := by decide +kernel
theorem dX9_count_93 : am_at cX9_count 93 (.getfield 10) 3 96 := by decide +kernel
theorem dX9_count_96 : am_at cX9_count 96 (.getfield 240) 3 99 := by decide +kernel
theorem dX9_count_99 : am_at cX9_count 99 (.ireturn) 1 100 := by decide +kernel
theorem dX9_count_100 : am_at cX9_count 100 (.aload_n 0) 1 101 := by decide +kernel
theorem dX9_count_101 : am_at cX9_count 101 (.getfield 72) 3 104 := by decide +kernel
theorem dX9_count_104 : am_at cX9_count 104 (.ireturn) 1 105 := by decide +kernel
theorem dX9_count_105 : am_at cX9_count 105 (.aload_n 0) 1 106 := by decide +kernel
theorem dX9_count_106 : am_at cX9_count 106 (.getfield 36) 3 109 := by decide +kernel
theorem dX9_count_109 : am_at cX9_count 109 (.getfield 232) 3 112 := by decide +kernel
theorem dX9_count_112 : am_at cX9_count 112 (.ireturn) 1 113 := by decide +kernel
theorem dX9_count_113 : am_at cX9_count 113 (.aload_n 0) 1 114 := by decide +kernel
theorem dX9_count_114 : am_at cX9_count 114 (.getfield 10) 3 117 := by decide +kernel
theorem dX9_count_117 : am_at cX9_count 117 (.getfield 148) 3 120 := by decide +kernel
theorem dX9_count_120 : am_at cX9_count 120 (.ireturn) 1 121 := by decide +kernel
theorem dX9_count_121 : am_at cX9_count 121 (.ldc 84) 2 123 := by decide +kernel
theorem dX9_count_123 : am_at cX9_count 123 (.ireturn) 1 124 := by decide +kernel
def fxX9_count (l0 : Option Nat) (l1 : Int32) (h : am_H) : Option (Int32 × am_H) := if l1 = 0 then (am_gd (am_ob h l0 9) (am_gd (am_ob h (am_gr h l0 0) 2) (some ((am_gi h (am_gr h l0 0) 1), h)))) else (if l1 = 1 then (am_gd (am_ob h l0 9) (am_gd (am_ob h (am_gr h l0 0) 2) (am_bd (fxX2_lostCount (am_gr h l0 0) h) (fun r2 h3 => some (r2, h3))))) else (if l1 = 2 then (am_gd (am_ob h l0 9) (am_gd (am_ob h (am_gr h l0 0) 2) (some ((am_gi h (am_gr h l0 0) 3), h)))) else (if l1 = 3 then (am_gd (am_ob h l0 9) (am_gd (am_ob h (am_gr h l0 0) 2) (some ((am_gi h (am_gr h l0 0) 2), h)))) else (if l1 = 4 then (am_gd (am_ob h l0 9) (am_gd (am_ob h (am_gr h l0 0) 2) (some ((am_gi h (am_gr h l0 0) 7), h)))) else (if l1 = 5 then (am_gd (am_ob h l0 9) (am_gd (am_ob h (am_gr h l0 0) 2) (some ((am_gi h (am_gr h l0 0) 8), h)))) else (if l1 = 6 then (am_gd (am_ob h l0 9) (some ((am_gi h l0 11), h))) else (if l1 = 7 then (am_gd (am_ob h l0 9) (am_gd (am_ob h (am_gr h l0 5) 8) (some ((am_gi h (am_gr h l0 5) 1), h)))) else (if l1 = 8 then (am_gd (am_ob h l0 9) (am_gd (am_ob h (am_gr h l0 0) 2) (some ((am_gi h (am_gr h l0 0) 4), h)))) else (some ((-1000000001 : Int32), h))))))))))
set_option maxRecDepth 100000 in
theorem sxX9_count {xs : List Int32} (l0 : Option Nat) (l1 : Int32) (h : am_H) : am_Sm xs am_ci mX9_count 1 0 0 0 [some (am_R l0), some (am_I l1)] [] h (fxX9_count l0 l1 h) := by
  unfold fxX9_count
  refine am_iload_n dX9_count_0 rfl ?_
  refine am_table (cs := [(0, 52), (1, 60), (2, 68), (3, 76), (4, 84), (5, 92), (6, 100), (7, 105), (8, 113)]) (dt := 121) dX9_count_1 (by decide +kernel) ?_
  refine am_sw_cons (fun c1 => ?_) (fun c1 => ?_)
  · refine am_aload_n dX9_count_52 rfl ?_
    refine am_getR dX9_count_53 fk_RX9_10 rfl ?_
    refine am_getI dX9_count_56 fk_RX9_136 rfl ?_
    exact am_iret dX9_count_59 rfl rfl
  refine am_sw_cons (fun c4 => ?_) (fun c4 => ?_)
  · refine am_aload_n dX9_count_60 rfl ?_
    refine am_getR dX9_count_61 fk_RX9_10 rfl ?_
    refine am_callV (cvj := am_ci) (mtj := mX2_lostCount) (dj := 0) (nj := 0) (rcj := 0) (rsj := 0) (rc' := 0) (rs' := 0) (ci := 2) (st' := fun a9 => (am_I a9 :: [])) ⟨_, rfl, rfl⟩ [] [] dX9_count_64 okX2_lostCount lk_RX9_182 (fun zA zH zE => txX2_lostCount (am_gr h l0 0) h zA zH zE) rfl (fun _ => rfl) (by decide) rfl (Nat.le_of_ble_eq_true rfl) (by decide) (by decide) (fun r2 h3 => ?_)
    exact am_iret dX9_count_67 rfl rfl
  refine am_sw_cons (fun c5 => ?_) (fun c5 => ?_)
  · refine am_aload_n dX9_count_68 rfl ?_
    refine am_getR dX9_count_69 fk_RX9_10 rfl ?_
    refine am_getI dX9_count_72 fk_RX9_185 rfl ?_
    exact am_iret dX9_count_75 rfl rfl
  refine am_sw_cons (fun c6 => ?_) (fun c6 => ?_)
  · refine am_aload_n dX9_count_76 rfl ?_
    refine am_getR dX9_count_77 fk_RX9_10 rfl ?_
    refine am_getI dX9_count_80 fk_RX9_179 rfl ?_
    exact am_iret dX9_count_83 rfl rfl
  refine am_sw_cons (fun c7 => ?_) (fun c7 => ?_)
  · refine am_aload_n dX9_count_84 rfl ?_
    refine am_getR dX9_count_85 fk_RX9_10 rfl ?_
    refine am_getI dX9_count_88 fk_RX9_214 rfl ?_
    exact am_iret dX9_count_91 rfl rfl
  refine am_sw_cons (fun c8 => ?_) (fun c8 => ?_)
  · refine am_aload_n dX9_count_92 rfl ?_
    refine am_getR dX9_count_93 fk_RX9_10 rfl ?_
    refine am_getI dX9_count_96 fk_RX9_240 rfl ?_
    exact am_iret dX9_count_99 rfl rfl
  refine am_sw_cons (fun c9 => ?_) (fun c9 => ?_)
  · refine am_aload_n dX9_count_100 rfl ?_
    refine am_getI dX9_count_101 fk_RX9_72 rfl ?_
    exact am_iret dX9_count_104 rfl rfl
  refine am_sw_cons (fun c10 => ?_) (fun c10 => ?_)
  · refine am_aload_n dX9_count_105 rfl ?_
    refine am_getR dX9_count_106 fk_RX9_36 rfl ?_
    refine am_getI dX9_count_109 fk_RX9_232 rfl ?_
    exact am_iret dX9_count_112 rfl rfl
  refine am_sw_cons (fun c11 => ?_) (fun c11 => ?_)
  · refine am_aload_n dX9_count_113 rfl ?_
    refine am_getR dX9_count_114 fk_RX9_10 rfl ?_
    refine am_getI dX9_count_117 fk_RX9_148 rfl ?_
    exact am_iret dX9_count_120 rfl rfl
  refine am_sw_nil ?_
  refine am_ldc (v := (-1000000001)) dX9_count_121 wd316 ?_
  exact am_iret dX9_count_123 rfl rfl
theorem txX9_count {xs : List Int32} (l0 : Option Nat) (l1 : Int32) (h : am_H) (a : Int32) (h2 : am_H) (e : fxX9_count l0 l1 h = some (a, h2)) : am_Ct xs mX9_count 1 0 0 [am_R l0, am_I l1] h (fun v h3 => v = am_ci a ∧ h3 = h2) := am_meth okX9_count (Nat.le_of_ble_eq_true rfl) rfl (sxX9_count l0 l1 h) e
theorem dX10_in_0 : am_at cX10_in 0 (.iload_n 0) 1 1 := by decide +kernel
theorem dX10_in_1 : am_at cX10_in 1 (.iload_n 1) 1 2 := by decide +kernel
theorem dX10_in_2 : am_at cX10_in 2 (.if_icmp .lt 12) 3 5 := by decide +kernel
theorem dX10_in_5 : am_at cX10_in 5 (.iload_n 0) 1 6 := by decide +kernel
theorem dX10_in_6 : am_at cX10_in 6 (.iload_n 2) 1 7 := by decide +kernel
theorem dX10_in_7 : am_at cX10_in 7 (.if_icmp .gt 7) 3 10 := by decide +kernel
theorem dX10_in_10 : am_at cX10_in 10 (.iconst 1) 1 11 := by decide +kernel
theorem dX10_in_11 : am_at cX10_in 11 (.goto 4) 3 14 := by decide +kernel
theorem dX10_in_14 : am_at cX10_in 14 (.iconst 0) 1 15 := by decide +kernel
theorem dX10_in_15 : am_at cX10_in 15 (.ireturn) 1 16 := by decide +kernel
def fxX10_in (l0 : Int32) (l1 : Int32) (l2 : Int32) (h : am_H) : Option (Int32 × am_H) := if l0 < l1 then (am_gd (am_bz (0 : Int32)) (some ((0 : Int32), h))) else (if l2 < l0 then (am_gd (am_bz (0 : Int32)) (some ((0 : Int32), h))) else (am_gd (am_bz (1 : Int32)) (some ((1 : Int32), h))))
set_option maxRecDepth 100000 in
theorem sxX10_in {xs : List Int32} (l0 : Int32) (l1 : Int32) (l2 : Int32) (h : am_H) : am_Sm xs am_ci mX10_in 0 0 0 0 [some (am_I l0), some (am_I l1), some (am_I l2)] [] h (fxX10_in l0 l1 l2 h) := by
  unfold fxX10_in
  refine am_iload_n dX10_in_0 rfl ?_
  refine am_iload_n dX10_in_1 rfl ?_
  refine am_icmp_lt (tgt := 14) dX10_in_2 (by decide) (fun c2 => ?_) (fun c2 => ?_)
  · refine am_iconst (v := 0) dX10_in_14 (by decide) ?_
    exact am_zret dX10_in_15 rfl rfl
  refine am_iload_n dX10_in_5 rfl ?_
  refine am_iload_n dX10_in_6 rfl ?_
  refine am_icmp_gt (tgt := 14) dX10_in_7 (by decide) (fun c1 => ?_) (fun c1 => ?_)
  · refine am_iconst (v := 0) dX10_in_14 (by decide) ?_
    exact am_zret dX10_in_15 rfl rfl
  refine am_iconst (v := 1) dX10_in_10 (by decide) ?_
  refine am_goto (tgt := 15) dX10_in_11 (by decide) ?_
  exact am_zret dX10_in_15 rfl rfl
theorem txX10_in {xs : List Int32} (l0 : Int32) (l1 : Int32) (l2 : Int32) (h : am_H) (a : Int32) (h2 : am_H) (e : fxX10_in l0 l1 l2 h = some (a, h2)) : am_Ct xs mX10_in 0 0 0 [am_I l0, am_I l1, am_I l2] h (fun v h3 => v = am_ci a ∧ h3 = h2) := am_meth okX10_in (Nat.le_of_ble_eq_true rfl) rfl (sxX10_in l0 l1 l2 h) e
theorem dX10_within_0 : am_at cX10_within 0 (.iload_n 0) 1 1 := by decide +kernel
theorem dX10_within_1 : am_at cX10_within 1 (.iload_n 1) 1 2 := by decide +kernel
theorem dX10_within_2 : am_at cX10_within 2 (.if_icmp .ge 7) 3 5 := by decide +kernel
theorem dX10_within_5 : am_at cX10_within 5 (.iload_n 1) 1 6 := by decide +kernel
theorem dX10_within_6 : am_at cX10_within 6 (.goto 13) 3 9 := by decide +kernel
theorem dX10_within_9 : am_at cX10_within 9 (.iload_n 0) 1 10 := by decide +kernel
theorem dX10_within_10 : am_at cX10_within 10 (.iload_n 2) 1 11 := by decide +kernel
theorem dX10_within_11 : am_at cX10_within 11 (.if_icmp .le 7) 3 14 := by decide +kernel
theorem dX10_within_14 : am_at cX10_within 14 (.iload_n 2) 1 15 := by decide +kernel
theorem dX10_within_15 : am_at cX10_within 15 (.goto 4) 3 18 := by decide +kernel
theorem dX10_within_18 : am_at cX10_within 18 (.iload_n 0) 1 19 := by decide +kernel
theorem dX10_within_19 : am_at cX10_within 19 (.ireturn) 1 20 := by decide +kernel
def fxX10_within (l0 : Int32) (l1 : Int32) (l2 : Int32) (h : am_H) : Option (Int32 × am_H) := if l1 ≤ l0 then (if l0 ≤ l2 then (some (l0, h)) else (some (l2, h))) else (some (l1, h))
set_option maxRecDepth 100000 in
theorem sxX10_within {xs : List Int32} (l0 : Int32) (l1 : Int32) (l2 : Int32) (h : am_H) : am_Sm xs am_ci mX10_within 0 0 0 0 [some (am_I l0), some (am_I l1), some (am_I l2)] [] h (fxX10_within l0 l1 l2 h) := by
  unfold fxX10_within
  refine am_iload_n dX10_within_0 rfl ?_
  refine am_iload_n dX10_within_1 rfl ?_
  refine am_icmp_ge (tgt := 9) dX10_within_2 (by decide) (fun c2 => ?_) (fun c2 => ?_)
  · refine am_iload_n dX10_within_9 rfl ?_
    refine am_iload_n dX10_within_10 rfl ?_
    refine am_icmp_le (tgt := 18) dX10_within_11 (by decide) (fun c1 => ?_) (fun c1 => ?_)
    · refine am_iload_n dX10_within_18 rfl ?_
      exact am_iret dX10_within_19 rfl rfl
    refine am_iload_n dX10_within_14 rfl ?_
    refine am_goto (tgt := 19) dX10_within_15 (by decide) ?_
    exact am_iret dX10_within_19 rfl rfl
  refine am_iload_n dX10_within_5 rfl ?_
  refine am_goto (tgt := 19) dX10_within_6 (by decide) ?_
  exact am_iret dX10_within_19 rfl rfl
theorem txX10_within {xs : List Int32} (l0 : Int32) (l1 : Int32) (l2 : Int32) (h : am_H) (a : Int32) (h2 : am_H) (e : fxX10_within l0 l1 l2 h = some (a, h2)) : am_Ct xs mX10_within 0 0 0 [am_I l0, am_I l1, am_I l2] h (fun v h3 => v = am_ci a ∧ h3 = h2) := am_meth okX10_within (Nat.le_of_ble_eq_true rfl) rfl (sxX10_within l0 l1 l2 h) e
theorem dX10_copyAll_0 : am_at cX10_copyAll 0 (.iconst 0) 1 1 := by decide +kernel
theorem dX10_copyAll_1 : am_at cX10_copyAll 1 (.istore_n 2) 1 2 := by decide +kernel
theorem dX10_copyAll_2 : am_at cX10_copyAll 2 (.iload_n 2) 1 3 := by decide +kernel
theorem dX10_copyAll_3 : am_at cX10_copyAll 3 (.sipush 1448) 3 6 := by decide +kernel
theorem dX10_copyAll_6 : am_at cX10_copyAll 6 (.if_icmp .ge 15) 3 9 := by decide +kernel
theorem dX10_copyAll_9 : am_at cX10_copyAll 9 (.aload_n 1) 1 10 := by decide +kernel
theorem dX10_copyAll_10 : am_at cX10_copyAll 10 (.iload_n 2) 1 11 := by decide +kernel
theorem dX10_copyAll_11 : am_at cX10_copyAll 11 (.aload_n 0) 1 12 := by decide +kernel
theorem dX10_copyAll_12 : am_at cX10_copyAll 12 (.iload_n 2) 1 13 := by decide +kernel
theorem dX10_copyAll_13 : am_at cX10_copyAll 13 (.iaload) 1 14 := by decide +kernel
theorem dX10_copyAll_14 : am_at cX10_copyAll 14 (.iastore) 1 15 := by decide +kernel
theorem dX10_copyAll_15 : am_at cX10_copyAll 15 (.iinc 2 1) 3 18 := by decide +kernel
theorem dX10_copyAll_18 : am_at cX10_copyAll 18 (.goto (-16)) 3 21 := by decide +kernel
theorem dX10_copyAll_21 : am_at cX10_copyAll 21 (.return_) 1 22 := by decide +kernel
def fxX10_copyAll_b2 : Nat → Option Nat → Option Nat → Int32 → am_H → Option (Unit × am_H)
  | 0, _, _, _, _ => none
  | n + 1, l0, l1, l2, h => if (1448 : Int32) ≤ l2 then (some ((), h)) else (am_gd (am_ix h l0 0 l2) (am_gd (am_ix h l1 0 l2) (am_lt (am_si h l1 l2.toNatClampNeg (am_gi h l0 l2.toNatClampNeg)) (fun h2 => am_lt (l2 + 1) (fun x3 => fxX10_copyAll_b2 n l0 l1 x3 h2)))))
set_option maxRecDepth 100000 in
theorem sxX10_copyAll_b2 {xs : List Int32} : ∀ (n : Nat) (l0 : Option Nat) (l1 : Option Nat) (l2 : Int32) (h : am_H), am_Sm xs am_cu mX10_copyAll 0 0 0 2 [some (am_R l0), some (am_R l1), some (am_I l2)] [] h (fxX10_copyAll_b2 n l0 l1 l2 h) := by
  intro n
  induction n with
  | zero => intros; exact am_none
  | succ n ih =>
    intro l0 l1 l2 h
    rw [fxX10_copyAll_b2]
    refine am_iload_n dX10_copyAll_2 rfl ?_
    refine am_sipush (v := 1448) dX10_copyAll_3 (by decide) ?_
    refine am_icmp_ge (tgt := 21) dX10_copyAll_6 (by decide) (fun c4 => ?_) (fun c4 => ?_)
    · exact am_vret dX10_copyAll_21 rfl rfl
    refine am_aload_n dX10_copyAll_9 rfl ?_
    refine am_iload_n dX10_copyAll_10 rfl ?_
    refine am_aload_n dX10_copyAll_11 rfl ?_
    refine am_iload_n dX10_copyAll_12 rfl ?_
    refine am_iald dX10_copyAll_13 ?_
    refine am_iast dX10_copyAll_14 (fun h2 => ?_)
    refine am_iinc (v := 1) (LL := fun y9 => [some (am_R l0), some (am_R l1), some (am_I y9)]) dX10_copyAll_15 (by decide) rfl (by decide) (fun _ => rfl) (fun x3 => ?_)
    refine am_goto (tgt := 2) dX10_copyAll_18 (by decide) ?_
    exact am_weak (ih l0 l1 x3 h2) ⟨rfl, ⟨rfl, ⟨rfl, trivial⟩⟩⟩ (Nat.le_refl _) (Nat.le_refl _)
def fxX10_copyAll (l0 : Option Nat) (l1 : Option Nat) (h : am_H) : Option (Unit × am_H) := am_lt (0 : Int32) (fun x1 => fxX10_copyAll_b2 am_F l0 l1 x1 h)
set_option maxRecDepth 100000 in
theorem sxX10_copyAll {xs : List Int32} (l0 : Option Nat) (l1 : Option Nat) (h : am_H) : am_Sm xs am_cu mX10_copyAll 0 0 0 0 [some (am_R l0), some (am_R l1), none] [] h (fxX10_copyAll l0 l1 h) := by
  unfold fxX10_copyAll
  refine am_iconst (v := 0) dX10_copyAll_0 (by decide) ?_
  refine am_istore_n (LL := fun y9 => [some (am_R l0), some (am_R l1), some (am_I y9)]) dX10_copyAll_1 (by decide) (fun _ => rfl) (fun x1 => ?_)
  exact am_weak (sxX10_copyAll_b2 am_F l0 l1 x1 h) ⟨rfl, ⟨rfl, ⟨rfl, trivial⟩⟩⟩ (Nat.le_refl _) (Nat.le_refl _)
theorem txX10_copyAll {xs : List Int32} (l0 : Option Nat) (l1 : Option Nat) (h : am_H) (a : Unit) (h2 : am_H) (e : fxX10_copyAll l0 l1 h = some (a, h2)) : am_Ct xs mX10_copyAll 0 0 0 [am_R l0, am_R l1] h (fun v h3 => v = am_cu a ∧ h3 = h2) := am_meth okX10_copyAll (Nat.le_of_ble_eq_true rfl) rfl (sxX10_copyAll l0 l1 h) e
theorem dX10_told0_0 : am_at cX10_told0 0 (.iload_n 0) 1 1 := by decide +kernel
theorem dX10_told0_1 : am_at cX10_told0 1 (.ifCond .ge 8) 3 4 := by decide +kernel
theorem dX10_told0_4 : am_at cX10_told0 4 (.ldc 84) 2 6 := by decide +kernel
theorem dX10_told0_6 : am_at cX10_told0 6 (.goto 4) 3 9 := by decide +kernel
theorem dX10_told0_9 : am_at cX10_told0 9 (.iload_n 0) 1 10 := by decide +kernel
theorem dX10_told0_10 : am_at cX10_told0 10 (.ireturn) 1 11 := by decide +kernel
def fxX10_told0 (l0 : Int32) (h : am_H) : Option (Int32 × am_H) := if 0 ≤ l0 then (some (l0, h)) else (some ((-1000000005 : Int32), h))
set_option maxRecDepth 100000 in
theorem sxX10_told0 {xs : List Int32} (l0 : Int32) (h : am_H) : am_Sm xs am_ci mX10_told0 0 0 0 0 [some (am_I l0)] [] h (fxX10_told0 l0 h) := by
  unfold fxX10_told0
  refine am_iload_n dX10_told0_0 rfl ?_
  refine am_if_ge (tgt := 9) dX10_told0_1 (by decide) (fun c1 => ?_) (fun c1 => ?_)
  · refine am_iload_n dX10_told0_9 rfl ?_
    exact am_iret dX10_told0_10 rfl rfl
  refine am_ldc (v := (-1000000005)) dX10_told0_4 wd1143 ?_
  refine am_goto (tgt := 10) dX10_told0_6 (by decide) ?_
  exact am_iret dX10_told0_10 rfl rfl
theorem txX10_told0 {xs : List Int32} (l0 : Int32) (h : am_H) (a : Int32) (h2 : am_H) (e : fxX10_told0 l0 h = some (a, h2)) : am_Ct xs mX10_told0 0 0 0 [am_I l0] h (fun v h3 => v = am_ci a ∧ h3 = h2) := am_meth okX10_told0 (Nat.le_of_ble_eq_true rfl) rfl (sxX10_told0 l0 h) e
theorem dX10_isGlove_0 : am_at cX10_isGlove 0 (.iload_n 1) 1 1 := by decide +kernel
theorem dX10_isGlove_1 : am_at cX10_isGlove 1 (.iconst 0) 1 2 := by decide +kernel
theorem dX10_isGlove_2 : am_at cX10_isGlove 2 (.aload_n 0) 1 3 := by decide +kernel
theorem dX10_isGlove_3 : am_at cX10_isGlove 3 (.getfield 9) 3 6 := by decide +kernel
theorem dX10_isGlove_6 : am_at cX10_isGlove 6 (.iconst 1) 1 7 := by decide +kernel
theorem dX10_isGlove_7 : am_at cX10_isGlove 7 (.iaload) 1 8 := by decide +kernel
theorem dX10_isGlove_8 : am_at cX10_isGlove 8 (.iconst 1) 1 9 := by decide +kernel
theorem dX10_isGlove_9 : am_at cX10_isGlove 9 (.isub) 1 10 := by decide +kernel
theorem dX10_isGlove_10 : am_at cX10_isGlove 10 (.invokestatic 85) 3 13 := by decide +kernel
theorem dX10_isGlove_13 : am_at cX10_isGlove 13 (.ireturn) 1 14 := by decide +kernel
def fxX10_isGlove (l0 : Option Nat) (l1 : Int32) (h : am_H) : Option (Int32 × am_H) := am_gd (am_ob h l0 10) (am_gd (am_ix h (am_gr h l0 0) 0 (1 : Int32)) (am_bd (fxX10_in l1 (0 : Int32) ((am_gi h (am_gr h l0 0) (1 : Int32).toNatClampNeg) - (1 : Int32)) h) (fun r1 h2 => am_gd (am_bz r1) (some (r1, h2)))))
set_option maxRecDepth 100000 in
theorem sxX10_isGlove {xs : List Int32} (l0 : Option Nat) (l1 : Int32) (h : am_H) : am_Sm xs am_ci mX10_isGlove 1 0 0 0 [some (am_R l0), some (am_I l1)] [] h (fxX10_isGlove l0 l1 h) := by
  unfold fxX10_isGlove
  refine am_iload_n dX10_isGlove_0 rfl ?_
  refine am_iconst (v := 0) dX10_isGlove_1 (by decide) ?_
  refine am_aload_n dX10_isGlove_2 rfl ?_
  refine am_getR dX10_isGlove_3 fk_RX10_9 rfl ?_
  refine am_iconst (v := 1) dX10_isGlove_6 (by decide) ?_
  refine am_iald dX10_isGlove_7 ?_
  refine am_iconst (v := 1) dX10_isGlove_8 (by decide) ?_
  refine am_isub dX10_isGlove_9 ?_
  refine am_callS (cvj := am_ci) (mtj := mX10_in) (dj := 0) (nj := 3) (rcj := 0) (rsj := 0) (rc' := 0) (rs' := 0) (st' := fun a9 => (am_I a9 :: [])) [am_I l1, am_I (0 : Int32), am_I ((am_gi h (am_gr h l0 0) (1 : Int32).toNatClampNeg) - (1 : Int32))] [] dX10_isGlove_10 okX10_in lk_RX10_85 (fun zA zH zE => txX10_in l1 (0 : Int32) ((am_gi h (am_gr h l0 0) (1 : Int32).toNatClampNeg) - (1 : Int32)) h zA zH zE) rfl (fun _ => rfl) (by decide) rfl (Nat.le_of_ble_eq_true rfl) (by decide) (by decide) (fun r1 h2 => ?_)
  exact am_zret dX10_isGlove_13 rfl rfl
theorem txX10_isGlove {xs : List Int32} (l0 : Option Nat) (l1 : Int32) (h : am_H) (a : Int32) (h2 : am_H) (e : fxX10_isGlove l0 l1 h = some (a, h2)) : am_Ct xs mX10_isGlove 1 0 0 [am_R l0, am_I l1] h (fun v h3 => v = am_ci a ∧ h3 = h2) := am_meth okX10_isGlove (Nat.le_of_ble_eq_true rfl) rfl (sxX10_isGlove l0 l1 h) e
theorem dX10_of_0 : am_at cX10_of 0 (.aload_n 0) 1 1 := by decide +kernel
theorem dX10_of_1 : am_at cX10_of 1 (.getfield 9) 3 4 := by decide +kernel
theorem dX10_of_4 : am_at cX10_of 4 (.bipush 16) 2 6 := by decide +kernel
theorem dX10_of_6 : am_at cX10_of 6 (.bipush 6) 2 8 := by decide +kernel
theorem dX10_of_8 : am_at cX10_of 8 (.iload_n 1) 1 9 := by decide +kernel
theorem dX10_of_9 : am_at cX10_of 9 (.imul) 1 10 := by decide +kernel
theorem dX10_of_10 : am_at cX10_of 10 (.iadd) 1 11 := by decide +kernel
theorem dX10_of_11 : am_at cX10_of 11 (.iload_n 2) 1 12 := by decide +kernel
theorem dX10_of_12 : am_at cX10_of 12 (.iadd) 1 13 := by decide +kernel
theorem dX10_of_13 : am_at cX10_of 13 (.iaload) 1 14 := by decide +kernel
theorem dX10_of_14 : am_at cX10_of 14 (.ireturn) 1 15 := by decide +kernel
def fxX10_of (l0 : Option Nat) (l1 : Int32) (l2 : Int32) (h : am_H) : Option (Int32 × am_H) := am_gd (am_ob h l0 10) (am_gd (am_ix h (am_gr h l0 0) 0 (((16 : Int32) + ((6 : Int32) * l1)) + l2)) (some ((am_gi h (am_gr h l0 0) (((16 : Int32) + ((6 : Int32) * l1)) + l2).toNatClampNeg), h)))
set_option maxRecDepth 100000 in
theorem sxX10_of {xs : List Int32} (l0 : Option Nat) (l1 : Int32) (l2 : Int32) (h : am_H) : am_Sm xs am_ci mX10_of 0 0 0 0 [some (am_R l0), some (am_I l1), some (am_I l2)] [] h (fxX10_of l0 l1 l2 h) := by
  unfold fxX10_of
  refine am_aload_n dX10_of_0 rfl ?_
  refine am_getR dX10_of_1 fk_RX10_9 rfl ?_
  refine am_bipush (v := 16) dX10_of_4 (by decide) ?_
  refine am_bipush (v := 6) dX10_of_6 (by decide) ?_
  refine am_iload_n dX10_of_8 rfl ?_
  refine am_imul dX10_of_9 ?_
  refine am_iadd dX10_of_10 ?_
  refine am_iload_n dX10_of_11 rfl ?_
  refine am_iadd dX10_of_12 ?_
  refine am_iald dX10_of_13 ?_
  exact am_iret dX10_of_14 rfl rfl
theorem txX10_of {xs : List Int32} (l0 : Option Nat) (l1 : Int32) (l2 : Int32) (h : am_H) (a : Int32) (h2 : am_H) (e : fxX10_of l0 l1 l2 h = some (a, h2)) : am_Ct xs mX10_of 0 0 0 [am_R l0, am_I l1, am_I l2] h (fun v h3 => v = am_ci a ∧ h3 = h2) := am_meth okX10_of (Nat.le_of_ble_eq_true rfl) rfl (sxX10_of l0 l1 l2 h) e
theorem dX10_put_0 : am_at cX10_put 0 (.aload_n 0) 1 1 := by decide +kernel
theorem dX10_put_1 : am_at cX10_put 1 (.getfield 9) 3 4 := by decide +kernel
theorem dX10_put_4 : am_at cX10_put 4 (.bipush 16) 2 6 := by decide +kernel
theorem dX10_put_6 : am_at cX10_put 6 (.bipush 6) 2 8 := by decide +kernel
theorem dX10_put_8 : am_at cX10_put 8 (.iload_n 1) 1 9 := by decide +kernel
theorem dX10_put_9 : am_at cX10_put 9 (.imul) 1 10 := by decide +kernel
theorem dX10_put_10 : am_at cX10_put 10 (.iadd) 1 11 := by decide +kernel
theorem dX10_put_11 : am_at cX10_put 11 (.iload_n 2) 1 12 := by decide +kernel
theorem dX10_put_12 : am_at cX10_put 12 (.iadd) 1 13 := by decide +kernel
theorem dX10_put_13 : am_at cX10_put 13 (.iload_n 3) 1 14 := by decide +kernel
theorem dX10_put_14 : am_at cX10_put 14 (.iastore) 1 15 := by decide +kernel
theorem dX10_put_15 : am_at cX10_put 15 (.return_) 1 16 := by decide +kernel
def fxX10_put (l0 : Option Nat) (l1 : Int32) (l2 : Int32) (l3 : Int32) (h : am_H) : Option (Unit × am_H) := am_gd (am_ob h l0 10) (am_gd (am_ix h (am_gr h l0 0) 0 (((16 : Int32) + ((6 : Int32) * l1)) + l2)) (am_lt (am_si h (am_gr h l0 0) (((16 : Int32) + ((6 : Int32) * l1)) + l2).toNatClampNeg l3) (fun h1 => some ((), h1))))
set_option maxRecDepth 100000 in
theorem sxX10_put {xs : List Int32} (l0 : Option Nat) (l1 : Int32) (l2 : Int32) (l3 : Int32) (h : am_H) : am_Sm xs am_cu mX10_put 0 0 0 0 [some (am_R l0), some (am_I l1), some (am_I l2), some (am_I l3)] [] h (fxX10_put l0 l1 l2 l3 h) := by
  unfold fxX10_put
  refine am_aload_n dX10_put_0 rfl ?_
  refine am_getR dX10_put_1 fk_RX10_9 rfl ?_
  refine am_bipush (v := 16) dX10_put_4 (by decide) ?_
  refine am_bipush (v := 6) dX10_put_6 (by decide) ?_
  refine am_iload_n dX10_put_8 rfl ?_
  refine am_imul dX10_put_9 ?_
  refine am_iadd dX10_put_10 ?_
  refine am_iload_n dX10_put_11 rfl ?_
  refine am_iadd dX10_put_12 ?_
  refine am_iload_n dX10_put_13 rfl ?_
  refine am_iast dX10_put_14 (fun h1 => ?_)
  exact am_vret dX10_put_15 rfl rfl
theorem txX10_put {xs : List Int32} (l0 : Option Nat) (l1 : Int32) (l2 : Int32) (l3 : Int32) (h : am_H) (a : Unit) (h2 : am_H) (e : fxX10_put l0 l1 l2 l3 h = some (a, h2)) : am_Ct xs mX10_put 0 0 0 [am_R l0, am_I l1, am_I l2, am_I l3] h (fun v h3 => v = am_cu a ∧ h3 = h2) := am_meth okX10_put (Nat.le_of_ble_eq_true rfl) rfl (sxX10_put l0 l1 l2 l3 h) e
theorem dX10_becomes_0 : am_at cX10_becomes 0 (.aload_n 0) 1 1 := by decide +kernel
theorem dX10_becomes_1 : am_at cX10_becomes 1 (.getfield 9) 3 4 := by decide +kernel
theorem dX10_becomes_4 : am_at cX10_becomes 4 (.iload_n 1) 1 5 := by decide +kernel
theorem dX10_becomes_5 : am_at cX10_becomes 5 (.iaload) 1 6 := by decide +kernel
theorem dX10_becomes_6 : am_at cX10_becomes 6 (.istore_n 3) 1 7 := by decide +kernel
theorem dX10_becomes_7 : am_at cX10_becomes 7 (.aload_n 0) 1 8 := by decide +kernel
theorem dX10_becomes_8 : am_at cX10_becomes 8 (.getfield 9) 3 11 := by decide +kernel
theorem dX10_becomes_11 : am_at cX10_becomes 11 (.iload_n 1) 1 12 := by decide +kernel
theorem dX10_becomes_12 : am_at cX10_becomes 12 (.iload_n 2) 1 13 := by decide +kernel
theorem dX10_becomes_13 : am_at cX10_becomes 13 (.iastore) 1 14 := by decide +kernel
theorem dX10_becomes_14 : am_at cX10_becomes 14 (.iload_n 3) 1 15 := by decide +kernel
theorem dX10_becomes_15 : am_at cX10_becomes 15 (.ireturn) 1 16 := by decide +kernel
def fxX10_becomes (l0 : Option Nat) (l1 : Int32) (l2 : Int32) (h : am_H) : Option (Int32 × am_H) := am_gd (am_ob h l0 10) (am_gd (am_ix h (am_gr h l0 0) 0 l1) (am_lt (am_gi h (am_gr h l0 0) l1.toNatClampNeg) (fun x1 => am_gd (am_ob h l0 10) (am_gd (am_ix h (am_gr h l0 0) 0 l1) (am_lt (am_si h (am_gr h l0 0) l1.toNatClampNeg l2) (fun h2 => some (x1, h2)))))))
set_option maxRecDepth 100000 in
theorem sxX10_becomes {xs : List Int32} (l0 : Option Nat) (l1 : Int32) (l2 : Int32) (h : am_H) : am_Sm xs am_ci mX10_becomes 0 0 0 0 [some (am_R l0), some (am_I l1), some (am_I l2), none] [] h (fxX10_becomes l0 l1 l2 h) := by
  unfold fxX10_becomes
  refine am_aload_n dX10_becomes_0 rfl ?_
  refine am_getR dX10_becomes_1 fk_RX10_9 rfl ?_
  refine am_iload_n dX10_becomes_4 rfl ?_
  refine am_iald dX10_becomes_5 ?_
  refine am_istore_n (LL := fun y9 => [some (am_R l0), some (am_I l1), some (am_I l2), some (am_I y9)]) dX10_becomes_6 (by decide) (fun _ => rfl) (fun x1 => ?_)
  refine am_aload_n dX10_becomes_7 rfl ?_
  refine am_getR dX10_becomes_8 fk_RX10_9 rfl ?_
  refine am_iload_n dX10_becomes_11 rfl ?_
  refine am_iload_n dX10_becomes_12 rfl ?_
  refine am_iast dX10_becomes_13 (fun h2 => ?_)
  refine am_iload_n dX10_becomes_14 rfl ?_
  exact am_iret dX10_becomes_15 rfl rfl
theorem txX10_becomes {xs : List Int32} (l0 : Option Nat) (l1 : Int32) (l2 : Int32) (h : am_H) (a : Int32) (h2 : am_H) (e : fxX10_becomes l0 l1 l2 h = some (a, h2)) : am_Ct xs mX10_becomes 0 0 0 [am_R l0, am_I l1, am_I l2] h (fun v h3 => v = am_ci a ∧ h3 = h2) := am_meth okX10_becomes (Nat.le_of_ble_eq_true rfl) rfl (sxX10_becomes l0 l1 l2 h) e
theorem dX10_comes_0 : am_at cX10_comes 0 (.aload_n 0) 1 1 := by decide +kernel
theorem dX10_comes_1 : am_at cX10_comes 1 (.getfield 9) 3 4 := by decide +kernel
theorem dX10_comes_4 : am_at cX10_comes 4 (.iconst 1) 1 5 := by decide +kernel
theorem dX10_comes_5 : am_at cX10_comes 5 (.iaload) 1 6 := by decide +kernel
theorem dX10_comes_6 : am_at cX10_comes 6 (.istore 5) 2 8 := by decide +kernel
theorem dX10_comes_8 : am_at cX10_comes 8 (.aload_n 0) 1 9 := by decide +kernel
theorem dX10_comes_9 : am_at cX10_comes 9 (.iload 5) 2 11 := by decide +kernel
theorem dX10_comes_11 : am_at cX10_comes 11 (.iconst 0) 1 12 := by decide +kernel
theorem dX10_comes_12 : am_at cX10_comes 12 (.iload_n 1) 1 13 := by decide +kernel
theorem dX10_comes_13 : am_at cX10_comes 13 (.invokevirtual 89) 3 16 := by decide +kernel
theorem dX10_comes_16 : am_at cX10_comes 16 (.aload_n 0) 1 17 := by decide +kernel
theorem dX10_comes_17 : am_at cX10_comes 17 (.iload 5) 2 19 := by decide +kernel
theorem dX10_comes_19 : am_at cX10_comes 19 (.iconst 1) 1 20 := by decide +kernel
theorem dX10_comes_20 : am_at cX10_comes 20 (.iload_n 2) 1 21 := by decide +kernel
theorem dX10_comes_21 : am_at cX10_comes 21 (.invokevirtual 89) 3 24 := by decide +kernel
theorem dX10_comes_24 : am_at cX10_comes 24 (.aload_n 0) 1 25 := by decide +kernel
theorem dX10_comes_25 : am_at cX10_comes 25 (.iload 5) 2 27 := by decide +kernel
theorem dX10_comes_27 : am_at cX10_comes 27 (.iconst 2) 1 28 := by decide +kernel
theorem dX10_comes_28 : am_at cX10_comes 28 (.iload_n 3) 1 29 := by decide +kernel
theorem dX10_comes_29 : am_at cX10_comes 29 (.invokevirtual 89) 3 32 := by decide +kernel
theorem dX10_comes_32 : am_at cX10_comes 32 (.aload_n 0) 1 33 := by decide +kernel
theorem dX10_comes_33 : am_at cX10_comes 33 (.iload 5) 2 35 := by decide +kernel
theorem dX10_comes_35 : am_at cX10_comes 35 (.iconst 3) 1 36 := by decide +kernel
theorem dX10_comes_36 : am_at cX10_comes 36 (.iload 4) 2 38 := by decide +kernel
theorem dX10_comes_38 : am_at cX10_comes 38 (.invokevirtual 89) 3 41 := by decide +kernel
theorem dX10_comes_41 : am_at cX10_comes 41 (.aload_n 0) 1 42 := by decide +kernel
theorem dX10_comes_42 : am_at cX10_comes 42 (.iload 5) 2 44 := by decide +kernel
theorem dX10_comes_44 : am_at cX10_comes 44 (.iconst 4) 1 45 := by decide +kernel
theorem dX10_comes_45 : am_at cX10_comes 45 (.iconst 0) 1 46 := by decide +kernel
theorem dX10_comes_46 : am_at cX10_comes 46 (.invokevirtual 89) 3 49 := by decide +kernel
theorem dX10_comes_49 : am_at cX10_comes 49 (.aload_n 0) 1 50 := by decide +kernel
theorem dX10_comes_50 : am_at cX10_comes 50 (.iload 5) 2 52 := by decide +kernel
theorem dX10_comes_52 : am_at cX10_comes 52 (.iconst 5) 1 53 := by decide +kernel
theorem dX10_comes_53 : am_at cX10_comes 53 (.iconst 0) 1 54 := by decide +kernel
theorem dX10_comes_54 : am_at cX10_comes 54 (.invokevirtual 89) 3 57 := by decide +kernel
theorem dX10_comes_57 : am_at cX10_comes 57 (.aload_n 0) 1 58 := by decide +kernel
theorem dX10_comes_58 : am_at cX10_comes 58 (.getfield 9) 3 61 := by decide +kernel
theorem dX10_comes_61 : am_at cX10_comes 61 (.iconst 1) 1 62 := by decide +kernel
theorem dX10_comes_62 : am_at cX10_comes 62 (.dup2) 1 63 := by decide +kernel
theorem dX10_comes_63 : am_at cX10_comes 63 (.iaload) 1 64 := by decide +kernel
theorem dX10_comes_64 : am_at cX10_comes 64 (.iconst 1) 1 65 := by decide +kernel
theorem dX10_comes_65 : am_at cX10_comes 65 (.iadd) 1 66 := by decide +kernel
theorem dX10_comes_66 : am_at cX10_comes 66 (.iastore) 1 67 := by decide +kernel
theorem dX10_comes_67 : am_at cX10_comes 67 (.iload 5) 2 69 := by decide +kernel
theorem dX10_comes_69 : am_at cX10_comes 69 (.ireturn) 1 70 := by decide +kernel
def fxX10_comes (l0 : Option Nat) (l1 : Int32) (l2 : Int32) (l3 : Int32) (l4 : Int32) (h : am_H) : Option (Int32 × am_H) := am_gd (am_ob h l0 10) (am_gd (am_ix h (am_gr h l0 0) 0 (1 : Int32)) (am_lt (am_gi h (am_gr h l0 0) (1 : Int32).toNatClampNeg) (fun x1 => am_gd (am_ob h l0 10) (am_bd (fxX10_put l0 x1 (0 : Int32) l1 h) (fun _ h2 => am_gd (am_ob h2 l0 10) (am_bd (fxX10_put l0 x1 (1 : Int32) l2 h2) (fun _ h3 => am_gd (am_ob h3 l0 10) (am_bd (fxX10_put l0 x1 (2 : Int32) l3 h3) (fun _ h4 => am_gd (am_ob h4 l0 10) (am_bd (fxX10_put l0 x1 (3 : Int32) l4 h4) (fun _ h5 => am_gd (am_ob h5 l0 10) (am_bd (fxX10_put l0 x1 (4 : Int32) (0 : Int32) h5) (fun _ h6 => am_gd (am_ob h6 l0 10) (am_bd (fxX10_put l0 x1 (5 : Int32) (0 : Int32) h6) (fun _ h7 => am_gd (am_ob h7 l0 10) (am_gd (am_ix h7 (am_gr h7 l0 0) 0 (1 : Int32)) (am_gd (am_ix h7 (am_gr h7 l0 0) 0 (1 : Int32)) (am_lt (am_si h7 (am_gr h7 l0 0) (1 : Int32).toNatClampNeg ((am_gi h7 (am_gr h7 l0 0) (1 : Int32).toNatClampNeg) + (1 : Int32))) (fun h8 => some (x1, h8))))))))))))))))))))
set_option maxRecDepth 100000 in
theorem sxX10_comes {xs : List Int32} (l0 : Option Nat) (l1 : Int32) (l2 : Int32) (l3 : Int32) (l4 : Int32) (h : am_H) : am_Sm xs am_ci mX10_comes 1 0 0 0 [some (am_R l0), some (am_I l1), some (am_I l2), some (am_I l3), some (am_I l4), none] [] h (fxX10_comes l0 l1 l2 l3 l4 h) := by
  unfold fxX10_comes
  refine am_aload_n dX10_comes_0 rfl ?_
  refine am_getR dX10_comes_1 fk_RX10_9 rfl ?_
  refine am_iconst (v := 1) dX10_comes_4 (by decide) ?_
  refine am_iald dX10_comes_5 ?_
  refine am_istore (LL := fun y9 => [some (am_R l0), some (am_I l1), some (am_I l2), some (am_I l3), some (am_I l4), some (am_I y9)]) dX10_comes_6 (by decide) (fun _ => rfl) (fun x1 => ?_)
  refine am_aload_n dX10_comes_8 rfl ?_
  refine am_iload dX10_comes_9 rfl ?_
  refine am_iconst (v := 0) dX10_comes_11 (by decide) ?_
  refine am_iload_n dX10_comes_12 rfl ?_
  refine am_callV (cvj := am_cu) (mtj := mX10_put) (dj := 0) (nj := 3) (rcj := 0) (rsj := 0) (rc' := 0) (rs' := 0) (ci := 10) (st' := fun _ => []) ⟨_, rfl, rfl⟩ [am_I x1, am_I (0 : Int32), am_I l1] [] dX10_comes_13 okX10_put lk_RX10_89 (fun zA zH zE => txX10_put l0 x1 (0 : Int32) l1 h zA zH zE) rfl (fun _ => rfl) (by decide) rfl (Nat.le_of_ble_eq_true rfl) (by decide) (by decide) (fun _ h2 => ?_)
  refine am_aload_n dX10_comes_16 rfl ?_
  refine am_iload dX10_comes_17 rfl ?_
  refine am_iconst (v := 1) dX10_comes_19 (by decide) ?_
  refine am_iload_n dX10_comes_20 rfl ?_
  refine am_callV (cvj := am_cu) (mtj := mX10_put) (dj := 0) (nj := 3) (rcj := 0) (rsj := 0) (rc' := 0) (rs' := 0) (ci := 10) (st' := fun _ => []) ⟨_, rfl, rfl⟩ [am_I x1, am_I (1 : Int32), am_I l2] [] dX10_comes_21 okX10_put lk_RX10_89 (fun zA zH zE => txX10_put l0 x1 (1 : Int32) l2 h2 zA zH zE) rfl (fun _ => rfl) (by decide) rfl (Nat.le_of_ble_eq_true rfl) (by decide) (by decide) (fun _ h3 => ?_)
  refine am_aload_n dX10_comes_24 rfl ?_
  refine am_iload dX10_comes_25 rfl ?_
  refine am_iconst (v := 2) dX10_comes_27 (by decide) ?_
  refine am_iload_n dX10_comes_28 rfl ?_
  refine am_callV (cvj := am_cu) (mtj := mX10_put) (dj := 0) (nj := 3) (rcj := 0) (rsj := 0) (rc' := 0) (rs' := 0) (ci := 10) (st' := fun _ => []) ⟨_, rfl, rfl⟩ [am_I x1, am_I (2 : Int32), am_I l3] [] dX10_comes_29 okX10_put lk_RX10_89 (fun zA zH zE => txX10_put l0 x1 (2 : Int32) l3 h3 zA zH zE) rfl (fun _ => rfl) (by decide) rfl (Nat.le_of_ble_eq_true rfl) (by decide) (by decide) (fun _ h4 => ?_)
  refine am_aload_n dX10_comes_32 rfl ?_
  refine am_iload dX10_comes_33 rfl ?_
  refine am_iconst (v := 3) dX10_comes_35 (by decide) ?_
  refine am_iload dX10_comes_36 rfl ?_
  refine am_callV (cvj := am_cu) (mtj := mX10_put) (dj := 0) (nj := 3) (rcj := 0) (rsj := 0) (rc' := 0) (rs' := 0) (ci := 10) (st' := fun _ => []) ⟨_, rfl, rfl⟩ [am_I x1, am_I (3 : Int32), am_I l4] [] dX10_comes_38 okX10_put lk_RX10_89 (fun zA zH zE => txX10_put l0 x1 (3 : Int32) l4 h4 zA zH zE) rfl (fun _ => rfl) (by decide) rfl (Nat.le_of_ble_eq_true rfl) (by decide) (by decide) (fun _ h5 => ?_)
  refine am_aload_n dX10_comes_41 rfl ?_
  refine am_iload dX10_comes_42 rfl ?_
  refine am_iconst (v := 4) dX10_comes_44 (by decide) ?_
  refine am_iconst (v := 0) dX10_comes_45 (by decide) ?_
  refine am_callV (cvj := am_cu) (mtj := mX10_put) (dj := 0) (nj := 3) (rcj := 0) (rsj := 0) (rc' := 0) (rs' := 0) (ci := 10) (st' := fun _ => []) ⟨_, rfl, rfl⟩ [am_I x1, am_I (4 : Int32), am_I (0 : Int32)] [] dX10_comes_46 okX10_put lk_RX10_89 (fun zA zH zE => txX10_put l0 x1 (4 : Int32) (0 : Int32) h5 zA zH zE) rfl (fun _ => rfl) (by decide) rfl (Nat.le_of_ble_eq_true rfl) (by decide) (by decide) (fun _ h6 => ?_)
  refine am_aload_n dX10_comes_49 rfl ?_
  refine am_iload dX10_comes_50 rfl ?_
  refine am_iconst (v := 5) dX10_comes_52 (by decide) ?_
  refine am_iconst (v := 0) dX10_comes_53 (by decide) ?_
  refine am_callV (cvj := am_cu) (mtj := mX10_put) (dj := 0) (nj := 3) (rcj := 0) (rsj := 0) (rc' := 0) (rs' := 0) (ci := 10) (st' := fun _ => []) ⟨_, rfl, rfl⟩ [am_I x1, am_I (5 : Int32), am_I (0 : Int32)] [] dX10_comes_54 okX10_put lk_RX10_89 (fun zA zH zE => txX10_put l0 x1 (5 : Int32) (0 : Int32) h6 zA zH zE) rfl (fun _ => rfl) (by decide) rfl (Nat.le_of_ble_eq_true rfl) (by decide) (by decide) (fun _ h7 => ?_)
  refine am_aload_n dX10_comes_57 rfl ?_
  refine am_getR dX10_comes_58 fk_RX10_9 rfl ?_
  refine am_iconst (v := 1) dX10_comes_61 (by decide) ?_
  refine am_dup2 dX10_comes_62 ?_
  refine am_iald dX10_comes_63 ?_
  refine am_iconst (v := 1) dX10_comes_64 (by decide) ?_
  refine am_iadd dX10_comes_65 ?_
  refine am_iast dX10_comes_66 (fun h8 => ?_)
  refine am_iload dX10_comes_67 rfl ?_
  exact am_iret dX10_comes_69 rfl rfl
theorem txX10_comes {xs : List Int32} (l0 : Option Nat) (l1 : Int32) (l2 : Int32) (l3 : Int32) (l4 : Int32) (h : am_H) (a : Int32) (h2 : am_H) (e : fxX10_comes l0 l1 l2 l3 l4 h = some (a, h2)) : am_Ct xs mX10_comes 1 0 0 [am_R l0, am_I l1, am_I l2, am_I l3, am_I l4] h (fun v h3 => v = am_ci a ∧ h3 = h2) := am_meth okX10_comes (Nat.le_of_ble_eq_true rfl) rfl (sxX10_comes l0 l1 l2 l3 l4 h) e
theorem dX10_mostOf_0 : am_at cX10_mostOf 0 (.iload_n 0) 1 1 := by decide +kernel
theorem dX10_mostOf_1 : am_at cX10_mostOf 1 (.iconst 1) 1 2 := by decide +kernel
theorem dX10_mostOf_2 : am_at cX10_mostOf 2 (.if_icmp .eq 8) 3 5 := by decide +kernel
theorem dX10_mostOf_5 : am_at cX10_mostOf 5 (.iload_n 0) 1 6 := by decide +kernel
theorem dX10_mostOf_6 : am_at cX10_mostOf 6 (.iconst 5) 1 7 := by decide +kernel
theorem dX10_mostOf_7 : am_at cX10_mostOf 7 (.if_icmp .ne 7) 3 10 := by decide +kernel
theorem dX10_mostOf_10 : am_at cX10_mostOf 10 (.iconst 1) 1 11 := by decide +kernel
theorem dX10_mostOf_11 : am_at cX10_mostOf 11 (.goto 15) 3 14 := by decide +kernel
theorem dX10_mostOf_14 : am_at cX10_mostOf 14 (.iload_n 0) 1 15 := by decide +kernel
theorem dX10_mostOf_15 : am_at cX10_mostOf 15 (.iconst 2) 1 16 := by decide +kernel
theorem dX10_mostOf_16 : am_at cX10_mostOf 16 (.if_icmp .ne 8) 3 19 := by decide +kernel
theorem dX10_mostOf_19 : am_at cX10_mostOf 19 (.bipush 9) 2 21 := by decide +kernel
theorem dX10_mostOf_21 : am_at cX10_mostOf 21 (.goto 5) 3 24 := by decide +kernel
theorem dX10_mostOf_24 : am_at cX10_mostOf 24 (.bipush 99) 2 26 := by decide +kernel
theorem dX10_mostOf_26 : am_at cX10_mostOf 26 (.ireturn) 1 27 := by decide +kernel
def fxX10_mostOf_b10 (h : am_H) : Option (Int32 × am_H) := some ((1 : Int32), h)
set_option maxRecDepth 100000 in
theorem sxX10_mostOf_b10 {xs : List Int32} (h : am_H) : am_Sm xs am_ci mX10_mostOf 0 0 0 10 [none] [] h (fxX10_mostOf_b10 h) := by
  unfold fxX10_mostOf_b10
  refine am_iconst (v := 1) dX10_mostOf_10 (by decide) ?_
  refine am_goto (tgt := 26) dX10_mostOf_11 (by decide) ?_
  exact am_iret dX10_mostOf_26 rfl rfl
def fxX10_mostOf (l0 : Int32) (h : am_H) : Option (Int32 × am_H) := if l0 = (1 : Int32) then (fxX10_mostOf_b10 h) else (if l0 = (5 : Int32) then (fxX10_mostOf_b10 h) else (if l0 = (2 : Int32) then (some ((9 : Int32), h)) else (some ((99 : Int32), h))))
set_option maxRecDepth 100000 in
theorem sxX10_mostOf {xs : List Int32} (l0 : Int32) (h : am_H) : am_Sm xs am_ci mX10_mostOf 0 0 0 0 [some (am_I l0)] [] h (fxX10_mostOf l0 h) := by
  unfold fxX10_mostOf
  refine am_iload_n dX10_mostOf_0 rfl ?_
  refine am_iconst (v := 1) dX10_mostOf_1 (by decide) ?_
  refine am_icmp_eq (tgt := 10) dX10_mostOf_2 (by decide) (fun c3 => ?_) (fun c3 => ?_)
  · exact am_weak (sxX10_mostOf_b10 h) trivial (Nat.le_refl _) (Nat.le_refl _)
  refine am_iload_n dX10_mostOf_5 rfl ?_
  refine am_iconst (v := 5) dX10_mostOf_6 (by decide) ?_
  refine am_icmp_ne (tgt := 14) dX10_mostOf_7 (by decide) (fun c2 => ?_) (fun c2 => ?_)
  · refine am_iload_n dX10_mostOf_14 rfl ?_
    refine am_iconst (v := 2) dX10_mostOf_15 (by decide) ?_
    refine am_icmp_ne (tgt := 24) dX10_mostOf_16 (by decide) (fun c1 => ?_) (fun c1 => ?_)
    · refine am_bipush (v := 99) dX10_mostOf_24 (by decide) ?_
      exact am_iret dX10_mostOf_26 rfl rfl
    refine am_bipush (v := 9) dX10_mostOf_19 (by decide) ?_
    refine am_goto (tgt := 26) dX10_mostOf_21 (by decide) ?_
    exact am_iret dX10_mostOf_26 rfl rfl
  exact am_weak (sxX10_mostOf_b10 h) trivial (Nat.le_refl _) (Nat.le_refl _)
theorem txX10_mostOf {xs : List Int32} (l0 : Int32) (h : am_H) (a : Int32) (h2 : am_H) (e : fxX10_mostOf l0 h = some (a, h2)) : am_Ct xs mX10_mostOf 0 0 0 [am_I l0] h (fun v h3 => v = am_ci a ∧ h3 = h2) := am_meth okX10_mostOf (Nat.le_of_ble_eq_true rfl) rfl (sxX10_mostOf l0 h) e
theorem dX10_glove_0 : am_at cX10_glove 0 (.iload_n 1) 1 1 := by decide +kernel
theorem dX10_glove_1 : am_at cX10_glove 1 (.iconst 0) 1 2 := by decide +kernel
theorem dX10_glove_2 : am_at cX10_glove 2 (.iconst 5) 1 3 := by decide +kernel
theorem dX10_glove_3 : am_at cX10_glove 3 (.invokestatic 85) 3 6 := by decide +kernel
theorem dX10_glove_6 : am_at cX10_glove 6 (.ifCond .eq 33) 3 9 := by decide +kernel
theorem dX10_glove_9 : am_at cX10_glove 9 (.iload_n 2) 1 10 := by decide +kernel
theorem dX10_glove_10 : am_at cX10_glove 10 (.iconst 0) 1 11 := by decide +kernel
theorem dX10_glove_11 : am_at cX10_glove 11 (.iconst 1) 1 12 := by decide +kernel
theorem dX10_glove_12 : am_at cX10_glove 12 (.invokestatic 85) 3 15 := by decide +kernel
theorem dX10_glove_15 : am_at cX10_glove 15 (.ifCond .eq 24) 3 18 := by decide +kernel
theorem dX10_glove_18 : am_at cX10_glove 18 (.iload_n 3) 1 19 := by decide +kernel
theorem dX10_glove_19 : am_at cX10_glove 19 (.iconst 0) 1 20 := by decide +kernel
theorem dX10_glove_20 : am_at cX10_glove 20 (.bipush 9) 2 22 := by decide +kernel
theorem dX10_glove_22 : am_at cX10_glove 22 (.invokestatic 85) 3 25 := by decide +kernel
theorem dX10_glove_25 : am_at cX10_glove 25 (.ifCond .eq 14) 3 28 := by decide +kernel
theorem dX10_glove_28 : am_at cX10_glove 28 (.iload 4) 2 30 := by decide +kernel
theorem dX10_glove_30 : am_at cX10_glove 30 (.iconst 0) 1 31 := by decide +kernel
theorem dX10_glove_31 : am_at cX10_glove 31 (.bipush 99) 2 33 := by decide +kernel
theorem dX10_glove_33 : am_at cX10_glove 33 (.invokestatic 85) 3 36 := by decide +kernel
theorem dX10_glove_36 : am_at cX10_glove 36 (.ifCond .ne 6) 3 39 := by decide +kernel
theorem dX10_glove_39 : am_at cX10_glove 39 (.ldc 93) 2 41 := by decide +kernel
theorem dX10_glove_41 : am_at cX10_glove 41 (.ireturn) 1 42 := by decide +kernel
theorem dX10_glove_42 : am_at cX10_glove 42 (.aload_n 0) 1 43 := by decide +kernel
theorem dX10_glove_43 : am_at cX10_glove 43 (.getfield 9) 3 46 := by decide +kernel
theorem dX10_glove_46 : am_at cX10_glove 46 (.iconst 1) 1 47 := by decide +kernel
theorem dX10_glove_47 : am_at cX10_glove 47 (.iaload) 1 48 := by decide +kernel
theorem dX10_glove_48 : am_at cX10_glove 48 (.bipush 10) 2 50 := by decide +kernel
theorem dX10_glove_50 : am_at cX10_glove 50 (.if_icmp .ne 8) 3 53 := by decide +kernel
theorem dX10_glove_53 : am_at cX10_glove 53 (.ldc 94) 2 55 := by decide +kernel
theorem dX10_glove_55 : am_at cX10_glove 55 (.goto 12) 3 58 := by decide +kernel
theorem dX10_glove_58 : am_at cX10_glove 58 (.aload_n 0) 1 59 := by decide +kernel
theorem dX10_glove_59 : am_at cX10_glove 59 (.iload_n 1) 1 60 := by decide +kernel
theorem dX10_glove_60 : am_at cX10_glove 60 (.iload_n 2) 1 61 := by decide +kernel
theorem dX10_glove_61 : am_at cX10_glove 61 (.iload_n 3) 1 62 := by decide +kernel
theorem dX10_glove_62 : am_at cX10_glove 62 (.iload 4) 2 64 := by decide +kernel
theorem dX10_glove_64 : am_at cX10_glove 64 (.invokevirtual 95) 3 67 := by decide +kernel
theorem dX10_glove_67 : am_at cX10_glove 67 (.ireturn) 1 68 := by decide +kernel
def fxX10_glove (l0 : Option Nat) (l1 : Int32) (l2 : Int32) (l3 : Int32) (l4 : Int32) (h : am_H) : Option (Int32 × am_H) := am_bd (fxX10_in l1 (0 : Int32) (5 : Int32) h) (fun r1 h2 => if r1 = 0 then (some ((-1000000001 : Int32), h2)) else (am_bd (fxX10_in l2 (0 : Int32) (1 : Int32) h2) (fun r3 h4 => if r3 = 0 then (some ((-1000000001 : Int32), h4)) else (am_bd (fxX10_in l3 (0 : Int32) (9 : Int32) h4) (fun r5 h6 => if r5 = 0 then (some ((-1000000001 : Int32), h6)) else (am_bd (fxX10_in l4 (0 : Int32) (99 : Int32) h6) (fun r7 h8 => if r7 = 0 then (some ((-1000000001 : Int32), h8)) else (am_gd (am_ob h8 l0 10) (am_gd (am_ix h8 (am_gr h8 l0 0) 0 (1 : Int32)) (if (am_gi h8 (am_gr h8 l0 0) (1 : Int32).toNatClampNeg) = (10 : Int32) then (some ((-1000000003 : Int32), h8)) else (am_gd (am_ob h8 l0 10) (am_bd (fxX10_comes l0 l1 l2 l3 l4 h8) (fun r9 h10 => some (r9, h10))))))))))))))
set_option maxRecDepth 100000 in
theorem sxX10_glove {xs : List Int32} (l0 : Option Nat) (l1 : Int32) (l2 : Int32) (l3 : Int32) (l4 : Int32) (h : am_H) : am_Sm xs am_ci mX10_glove 2 0 0 0 [some (am_R l0), some (am_I l1), some (am_I l2), some (am_I l3), some (am_I l4)] [] h (fxX10_glove l0 l1 l2 l3 l4 h) := by
  unfold fxX10_glove
  refine am_iload_n dX10_glove_0 rfl ?_
  refine am_iconst (v := 0) dX10_glove_1 (by decide) ?_
  refine am_iconst (v := 5) dX10_glove_2 (by decide) ?_
  refine am_callS (cvj := am_ci) (mtj := mX10_in) (dj := 0) (nj := 3) (rcj := 0) (rsj := 0) (rc' := 0) (rs' := 0) (st' := fun a9 => (am_I a9 :: [])) [am_I l1, am_I (0 : Int32), am_I (5 : Int32)] [] dX10_glove_3 okX10_in lk_RX10_85 (fun zA zH zE => txX10_in l1 (0 : Int32) (5 : Int32) h zA zH zE) rfl (fun _ => rfl) (by decide) rfl (Nat.le_of_ble_eq_true rfl) (by decide) (by decide) (fun r1 h2 => ?_)
  refine am_if_eq (tgt := 39) dX10_glove_6 (by decide) (fun c15 => ?_) (fun c15 => ?_)
  · refine am_ldc (v := (-1000000001)) dX10_glove_39 wd1060 ?_
    exact am_iret dX10_glove_41 rfl rfl
  refine am_iload_n dX10_glove_9 rfl ?_
  refine am_iconst (v := 0) dX10_glove_10 (by decide) ?_
  refine am_iconst (v := 1) dX10_glove_11 (by decide) ?_
  refine am_callS (cvj := am_ci) (mtj := mX10_in) (dj := 0) (nj := 3) (rcj := 0) (rsj := 0) (rc' := 0) (rs' := 0) (st' := fun a9 => (am_I a9 :: [])) [am_I l2, am_I (0 : Int32), am_I (1 : Int32)] [] dX10_glove_12 okX10_in lk_RX10_85 (fun zA zH zE => txX10_in l2 (0 : Int32) (1 : Int32) h2 zA zH zE) rfl (fun _ => rfl) (by decide) rfl (Nat.le_of_ble_eq_true rfl) (by decide) (by decide) (fun r3 h4 => ?_)
  refine am_if_eq (tgt := 39) dX10_glove_15 (by decide) (fun c14 => ?_) (fun c14 => ?_)
  · refine am_ldc (v := (-1000000001)) dX10_glove_39 wd1060 ?_
    exact am_iret dX10_glove_41 rfl rfl
  refine am_iload_n dX10_glove_18 rfl ?_
  refine am_iconst (v := 0) dX10_glove_19 (by decide) ?_
  refine am_bipush (v := 9) dX10_glove_20 (by decide) ?_
  refine am_callS (cvj := am_ci) (mtj := mX10_in) (dj := 0) (nj := 3) (rcj := 0) (rsj := 0) (rc' := 0) (rs' := 0) (st' := fun a9 => (am_I a9 :: [])) [am_I l3, am_I (0 : Int32), am_I (9 : Int32)] [] dX10_glove_22 okX10_in lk_RX10_85 (fun zA zH zE => txX10_in l3 (0 : Int32) (9 : Int32) h4 zA zH zE) rfl (fun _ => rfl) (by decide) rfl (Nat.le_of_ble_eq_true rfl) (by decide) (by decide) (fun r5 h6 => ?_)
  refine am_if_eq (tgt := 39) dX10_glove_25 (by decide) (fun c13 => ?_) (fun c13 => ?_)
  · refine am_ldc (v := (-1000000001)) dX10_glove_39 wd1060 ?_
    exact am_iret dX10_glove_41 rfl rfl
  refine am_iload dX10_glove_28 rfl ?_
  refine am_iconst (v := 0) dX10_glove_30 (by decide) ?_
  refine am_bipush (v := 99) dX10_glove_31 (by decide) ?_
  refine am_callS (cvj := am_ci) (mtj := mX10_in) (dj := 0) (nj := 3) (rcj := 0) (rsj := 0) (rc' := 0) (rs' := 0) (st' := fun a9 => (am_I a9 :: [])) [am_I l4, am_I (0 : Int32), am_I (99 : Int32)] [] dX10_glove_33 okX10_in lk_RX10_85 (fun zA zH zE => txX10_in l4 (0 : Int32) (99 : Int32) h6 zA zH zE) rfl (fun _ => rfl) (by decide) rfl (Nat.le_of_ble_eq_true rfl) (by decide) (by decide) (fun r7 h8 => ?_)
  refine am_if_ne (tgt := 42) dX10_glove_36 (by decide) (fun c12 => ?_) (fun c12 => ?_)
  · refine am_aload_n dX10_glove_42 rfl ?_
    refine am_getR dX10_glove_43 fk_RX10_9 rfl ?_
    refine am_iconst (v := 1) dX10_glove_46 (by decide) ?_
    refine am_iald dX10_glove_47 ?_
    refine am_bipush (v := 10) dX10_glove_48 (by decide) ?_
    refine am_icmp_ne (tgt := 58) dX10_glove_50 (by decide) (fun c11 => ?_) (fun c11 => ?_)
    · refine am_aload_n dX10_glove_58 rfl ?_
      refine am_iload_n dX10_glove_59 rfl ?_
      refine am_iload_n dX10_glove_60 rfl ?_
      refine am_iload_n dX10_glove_61 rfl ?_
      refine am_iload dX10_glove_62 rfl ?_
      refine am_callV (cvj := am_ci) (mtj := mX10_comes) (dj := 1) (nj := 4) (rcj := 0) (rsj := 0) (rc' := 0) (rs' := 0) (ci := 10) (st' := fun a9 => (am_I a9 :: [])) ⟨_, rfl, rfl⟩ [am_I l1, am_I l2, am_I l3, am_I l4] [] dX10_glove_64 okX10_comes lk_RX10_95 (fun zA zH zE => txX10_comes l0 l1 l2 l3 l4 h8 zA zH zE) rfl (fun _ => rfl) (by decide) rfl (Nat.le_of_ble_eq_true rfl) (by decide) (by decide) (fun r9 h10 => ?_)
      exact am_iret dX10_glove_67 rfl rfl
    refine am_ldc (v := (-1000000003)) dX10_glove_53 wd1061 ?_
    refine am_goto (tgt := 67) dX10_glove_55 (by decide) ?_
    exact am_iret dX10_glove_67 rfl rfl
  refine am_ldc (v := (-1000000001)) dX10_glove_39 wd1060 ?_
  exact am_iret dX10_glove_41 rfl rfl
theorem txX10_glove {xs : List Int32} (l0 : Option Nat) (l1 : Int32) (l2 : Int32) (l3 : Int32) (l4 : Int32) (h : am_H) (a : Int32) (h2 : am_H) (e : fxX10_glove l0 l1 l2 l3 l4 h = some (a, h2)) : am_Ct xs mX10_glove 2 0 0 [am_R l0, am_I l1, am_I l2, am_I l3, am_I l4] h (fun v h3 => v = am_ci a ∧ h3 = h2) := am_meth okX10_glove (Nat.le_of_ble_eq_true rfl) rfl (sxX10_glove l0 l1 l2 l3 l4 h) e
theorem dX10_worthOf_0 : am_at cX10_worthOf 0 (.aload_n 0) 1 1 := by decide +kernel
theorem dX10_worthOf_1 : am_at cX10_worthOf 1 (.iload_n 1) 1 2 := by decide +kernel
theorem dX10_worthOf_2 : am_at cX10_worthOf 2 (.iconst 3) 1 3 := by decide +kernel
theorem dX10_worthOf_3 : am_at cX10_worthOf 3 (.invokevirtual 99) 3 6 := by decide +kernel
theorem dX10_worthOf_6 : am_at cX10_worthOf 6 (.istore_n 2) 1 7 := by decide +kernel
theorem dX10_worthOf_7 : am_at cX10_worthOf 7 (.aload_n 0) 1 8 := by decide +kernel
theorem dX10_worthOf_8 : am_at cX10_worthOf 8 (.iload_n 1) 1 9 := by decide +kernel
theorem dX10_worthOf_9 : am_at cX10_worthOf 9 (.iconst 0) 1 10 := by decide +kernel
theorem dX10_worthOf_10 : am_at cX10_worthOf 10 (.invokevirtual 99) 3 13 := by decide +kernel
theorem dX10_worthOf_13 : am_at cX10_worthOf 13 (.tableswitch 58 1 5 #[35, 39, 44, 50, 55]) 35 48 := by decide +kernel
theorem dX10_worthOf_48 : am_at cX10_worthOf 48 (.iload_n 2) 1 49 := by decide +kernel
theorem dX10_worthOf_49 : am_at cX10_worthOf 49 (.iconst 5) 1 50 := by decide +kernel
theorem dX10_worthOf_50 : am_at cX10_worthOf 50 (.iadd) 1 51 := by decide +kernel
theorem dX10_worthOf_51 : am_at cX10_worthOf 51 (.ireturn) 1 52 := by decide +kernel
theorem dX10_worthOf_52 : am_at cX10_worthOf 52 (.bipush 99) 2 54 := by decide +kernel
theorem dX10_worthOf_54 : am_at cX10_worthOf 54 (.iload_n 2) 1 55 := by decide +kernel
theorem dX10_worthOf_55 : am_at cX10_worthOf 55 (.isub) 1 56 := by decide +kernel
theorem dX10_worthOf_56 : am_at cX10_worthOf 56 (.ireturn) 1 57 := by decide +kernel
theorem dX10_worthOf_57 : am_at cX10_worthOf 57 (.iconst 2) 1 58 := by decide +kernel
theorem dX10_worthOf_58 : am_at cX10_worthOf 58 (.iload_n 2) 1 59 := by decide +kernel
theorem dX10_worthOf_59 : am_at cX10_worthOf 59 (.iconst 5) 1 60 := by decide +kernel
theorem dX10_worthOf_60 : am_at cX10_worthOf 60 (.iadd) 1 61 := by decide +kernel
theorem dX10_worthOf_61 : am_at cX10_worthOf 61 (.imul) 1 62 := by decide +kernel
theorem dX10_worthOf_62 : am_at cX10_worthOf 62 (.ireturn) 1 63 := by decide +kernel
theorem dX10_worthOf_63 : am_at cX10_worthOf 63 (.bipush 96) 2 65 := by decide +kernel
theorem dX10_worthOf_65 : am_at cX10_worthOf 65 (.iload_n 2) 1 66 := by decide +kernel
theorem dX10_worthOf_66 : am_at cX10_worthOf 66 (.isub) 1 67 := by decide +kernel
theorem dX10_worthOf_67 : am_at cX10_worthOf 67 (.ireturn) 1 68 := by decide +kernel
theorem dX10_worthOf_68 : am_at cX10_worthOf 68 (.bipush 8) 2 70 := by decide +kernel
theorem dX10_worthOf_70 : am_at cX10_worthOf 70 (.ireturn) 1 71 := by decide +kernel
theorem dX10_worthOf_71 : am_at cX10_worthOf 71 (.iload_n 2) 1 72 := by decide +kernel
theorem dX10_worthOf_72 : am_at cX10_worthOf 72 (.ireturn) 1 73 := by decide +kernel
def fxX10_worthOf (l0 : Option Nat) (l1 : Int32) (h : am_H) : Option (Int32 × am_H) := am_gd (am_ob h l0 10) (am_bd (fxX10_of l0 l1 (3 : Int32) h) (fun r1 h2 => am_lt r1 (fun x3 => am_gd (am_ob h2 l0 10) (am_bd (fxX10_of l0 l1 (0 : Int32) h2) (fun r4 h5 => if r4 = 1 then (some ((x3 + (5 : Int32)), h5)) else (if r4 = 2 then (some (((99 : Int32) - x3), h5)) else (if r4 = 3 then (some (((2 : Int32) * (x3 + (5 : Int32))), h5)) else (if r4 = 4 then (some (((96 : Int32) - x3), h5)) else (if r4 = 5 then (some ((8 : Int32), h5)) else (some (x3, h5)))))))))))
set_option maxRecDepth 100000 in
theorem sxX10_worthOf {xs : List Int32} (l0 : Option Nat) (l1 : Int32) (h : am_H) : am_Sm xs am_ci mX10_worthOf 1 0 0 0 [some (am_R l0), some (am_I l1), none] [] h (fxX10_worthOf l0 l1 h) := by
  unfold fxX10_worthOf
  refine am_aload_n dX10_worthOf_0 rfl ?_
  refine am_iload_n dX10_worthOf_1 rfl ?_
  refine am_iconst (v := 3) dX10_worthOf_2 (by decide) ?_
  refine am_callV (cvj := am_ci) (mtj := mX10_of) (dj := 0) (nj := 2) (rcj := 0) (rsj := 0) (rc' := 0) (rs' := 0) (ci := 10) (st' := fun a9 => (am_I a9 :: [])) ⟨_, rfl, rfl⟩ [am_I l1, am_I (3 : Int32)] [] dX10_worthOf_3 okX10_of lk_RX10_99 (fun zA zH zE => txX10_of l0 l1 (3 : Int32) h zA zH zE) rfl (fun _ => rfl) (by decide) rfl (Nat.le_of_ble_eq_true rfl) (by decide) (by decide) (fun r1 h2 => ?_)
  refine am_istore_n (LL := fun y9 => [some (am_R l0), some (am_I l1), some (am_I y9)]) dX10_worthOf_6 (by decide) (fun _ => rfl) (fun x3 => ?_)
  refine am_aload_n dX10_worthOf_7 rfl ?_
  refine am_iload_n dX10_worthOf_8 rfl ?_
  refine am_iconst (v := 0) dX10_worthOf_9 (by decide) ?_
  refine am_callV (cvj := am_ci) (mtj := mX10_of) (dj := 0) (nj := 2) (rcj := 0) (rsj := 0) (rc' := 0) (rs' := 0) (ci := 10) (st' := fun a9 => (am_I a9 :: [])) ⟨_, rfl, rfl⟩ [am_I l1, am_I (0 : Int32)] [] dX10_worthOf_10 okX10_of lk_RX10_99 (fun zA zH zE => txX10_of l0 l1 (0 : Int32) h2 zA zH zE) rfl (fun _ => rfl) (by decide) rfl (Nat.le_of_ble_eq_true rfl) (by decide) (by decide) (fun r4 h5 => ?_)
  refine am_table (cs := [(1, 48), (2, 52), (3, 57), (4, 63), (5, 68)]) (dt := 71) dX10_worthOf_13 (by decide +kernel) ?_
  refine am_sw_cons (fun c6 => ?_) (fun c6 => ?_)
  · refine am_iload_n dX10_worthOf_48 rfl ?_
    refine am_iconst (v := 5) dX10_worthOf_49 (by decide) ?_
    refine am_iadd dX10_worthOf_50 ?_
    exact am_iret dX10_worthOf_51 rfl rfl
  refine am_sw_cons (fun c7 => ?_) (fun c7 => ?_)
  · refine am_bipush (v := 99) dX10_worthOf_52 (by decide) ?_
    refine am_iload_n dX10_worthOf_54 rfl ?_
    refine am_isub dX10_worthOf_55 ?_
    exact am_iret dX10_worthOf_56 rfl rfl
  refine am_sw_cons (fun c8 => ?_) (fun c8 => ?_)
  · refine am_iconst (v := 2) dX10_worthOf_57 (by decide) ?_
    refine am_iload_n dX10_worthOf_58 rfl ?_
    refine am_iconst (v := 5) dX10_worthOf_59 (by decide) ?_
    refine am_iadd dX10_worthOf_60 ?_
    refine am_imul dX10_worthOf_61 ?_
    exact am_iret dX10_worthOf_62 rfl rfl
  refine am_sw_cons (fun c9 => ?_) (fun c9 => ?_)
  · refine am_bipush (v := 96) dX10_worthOf_63 (by decide) ?_
    refine am_iload_n dX10_worthOf_65 rfl ?_
    refine am_isub dX10_worthOf_66 ?_
    exact am_iret dX10_worthOf_67 rfl rfl
  refine am_sw_cons (fun c10 => ?_) (fun c10 => ?_)
  · refine am_bipush (v := 8) dX10_worthOf_68 (by decide) ?_
    exact am_iret dX10_worthOf_70 rfl rfl
  refine am_sw_nil ?_
  refine am_iload_n dX10_worthOf_71 rfl ?_
  exact am_iret dX10_worthOf_72 rfl rfl
theorem txX10_worthOf {xs : List Int32} (l0 : Option Nat) (l1 : Int32) (h : am_H) (a : Int32) (h2 : am_H) (e : fxX10_worthOf l0 l1 h = some (a, h2)) : am_Ct xs mX10_worthOf 1 0 0 [am_R l0, am_I l1] h (fun v h3 => v = am_ci a ∧ h3 = h2) := am_meth okX10_worthOf (Nat.le_of_ble_eq_true rfl) rfl (sxX10_worthOf l0 l1 h) e
theorem dX10_told_0 : am_at cX10_told 0 (.aload_n 0) 1 1 := by decide +kernel
theorem dX10_told_1 : am_at cX10_told 1 (.iload_n 1) 1 2 := by decide +kernel
theorem dX10_told_2 : am_at cX10_told 2 (.invokevirtual 103) 3 5 := by decide +kernel
theorem dX10_told_5 : am_at cX10_told 5 (.ifCond .eq 13) 3 8 := by decide +kernel
theorem dX10_told_8 : am_at cX10_told 8 (.iload_n 2) 1 9 := by decide +kernel
theorem dX10_told_9 : am_at cX10_told 9 (.iconst 0) 1 10 := by decide +kernel
theorem dX10_told_10 : am_at cX10_told 10 (.bipush 6) 2 12 := by decide +kernel
theorem dX10_told_12 : am_at cX10_told 12 (.invokestatic 85) 3 15 := by decide +kernel
theorem dX10_told_15 : am_at cX10_told 15 (.ifCond .ne 6) 3 18 := by decide +kernel
theorem dX10_told_18 : am_at cX10_told 18 (.ldc 93) 2 20 := by decide +kernel
theorem dX10_told_20 : am_at cX10_told 20 (.ireturn) 1 21 := by decide +kernel
theorem dX10_told_21 : am_at cX10_told 21 (.iload_n 2) 1 22 := by decide +kernel
theorem dX10_told_22 : am_at cX10_told 22 (.bipush 6) 2 24 := by decide +kernel
theorem dX10_told_24 : am_at cX10_told 24 (.if_icmp .ge 12) 3 27 := by decide +kernel
theorem dX10_told_27 : am_at cX10_told 27 (.aload_n 0) 1 28 := by decide +kernel
theorem dX10_told_28 : am_at cX10_told 28 (.iload_n 1) 1 29 := by decide +kernel
theorem dX10_told_29 : am_at cX10_told 29 (.iload_n 2) 1 30 := by decide +kernel
theorem dX10_told_30 : am_at cX10_told 30 (.invokevirtual 99) 3 33 := by decide +kernel
theorem dX10_told_33 : am_at cX10_told 33 (.goto 8) 3 36 := by decide +kernel
theorem dX10_told_36 : am_at cX10_told 36 (.aload_n 0) 1 37 := by decide +kernel
theorem dX10_told_37 : am_at cX10_told 37 (.iload_n 1) 1 38 := by decide +kernel
theorem dX10_told_38 : am_at cX10_told 38 (.invokevirtual 107) 3 41 := by decide +kernel
theorem dX10_told_41 : am_at cX10_told 41 (.ireturn) 1 42 := by decide +kernel
def fxX10_told (l0 : Option Nat) (l1 : Int32) (l2 : Int32) (h : am_H) : Option (Int32 × am_H) := am_gd (am_ob h l0 10) (am_bd (fxX10_isGlove l0 l1 h) (fun r1 h2 => if r1 = 0 then (some ((-1000000001 : Int32), h2)) else (am_bd (fxX10_in l2 (0 : Int32) (6 : Int32) h2) (fun r3 h4 => if r3 = 0 then (some ((-1000000001 : Int32), h4)) else (if (6 : Int32) ≤ l2 then (am_gd (am_ob h4 l0 10) (am_bd (fxX10_worthOf l0 l1 h4) (fun r5 h6 => some (r5, h6)))) else (am_gd (am_ob h4 l0 10) (am_bd (fxX10_of l0 l1 l2 h4) (fun r7 h8 => some (r7, h8)))))))))
set_option maxRecDepth 100000 in
theorem sxX10_told {xs : List Int32} (l0 : Option Nat) (l1 : Int32) (l2 : Int32) (h : am_H) : am_Sm xs am_ci mX10_told 2 0 0 0 [some (am_R l0), some (am_I l1), some (am_I l2)] [] h (fxX10_told l0 l1 l2 h) := by
  unfold fxX10_told
  refine am_aload_n dX10_told_0 rfl ?_
  refine am_iload_n dX10_told_1 rfl ?_
  refine am_callV (cvj := am_ci) (mtj := mX10_isGlove) (dj := 1) (nj := 1) (rcj := 0) (rsj := 0) (rc' := 0) (rs' := 0) (ci := 10) (st' := fun a9 => (am_I a9 :: [])) ⟨_, rfl, rfl⟩ [am_I l1] [] dX10_told_2 okX10_isGlove lk_RX10_103 (fun zA zH zE => txX10_isGlove l0 l1 h zA zH zE) rfl (fun _ => rfl) (by decide) rfl (Nat.le_of_ble_eq_true rfl) (by decide) (by decide) (fun r1 h2 => ?_)
  refine am_if_eq (tgt := 18) dX10_told_5 (by decide) (fun c11 => ?_) (fun c11 => ?_)
  · refine am_ldc (v := (-1000000001)) dX10_told_18 wd1060 ?_
    exact am_iret dX10_told_20 rfl rfl
  refine am_iload_n dX10_told_8 rfl ?_
  refine am_iconst (v := 0) dX10_told_9 (by decide) ?_
  refine am_bipush (v := 6) dX10_told_10 (by decide) ?_
  refine am_callS (cvj := am_ci) (mtj := mX10_in) (dj := 0) (nj := 3) (rcj := 0) (rsj := 0) (rc' := 0) (rs' := 0) (st' := fun a9 => (am_I a9 :: [])) [am_I l2, am_I (0 : Int32), am_I (6 : Int32)] [] dX10_told_12 okX10_in lk_RX10_85 (fun zA zH zE => txX10_in l2 (0 : Int32) (6 : Int32) h2 zA zH zE) rfl (fun _ => rfl) (by decide) rfl (Nat.le_of_ble_eq_true rfl) (by decide) (by decide) (fun r3 h4 => ?_)
  refine am_if_ne (tgt := 21) dX10_told_15 (by decide) (fun c10 => ?_) (fun c10 => ?_)
  · refine am_iload_n dX10_told_21 rfl ?_
    refine am_bipush (v := 6) dX10_told_22 (by decide) ?_
    refine am_icmp_ge (tgt := 36) dX10_told_24 (by decide) (fun c9 => ?_) (fun c9 => ?_)
    · refine am_aload_n dX10_told_36 rfl ?_
      refine am_iload_n dX10_told_37 rfl ?_
      refine am_callV (cvj := am_ci) (mtj := mX10_worthOf) (dj := 1) (nj := 1) (rcj := 0) (rsj := 0) (rc' := 0) (rs' := 0) (ci := 10) (st' := fun a9 => (am_I a9 :: [])) ⟨_, rfl, rfl⟩ [am_I l1] [] dX10_told_38 okX10_worthOf lk_RX10_107 (fun zA zH zE => txX10_worthOf l0 l1 h4 zA zH zE) rfl (fun _ => rfl) (by decide) rfl (Nat.le_of_ble_eq_true rfl) (by decide) (by decide) (fun r5 h6 => ?_)
      exact am_iret dX10_told_41 rfl rfl
    refine am_aload_n dX10_told_27 rfl ?_
    refine am_iload_n dX10_told_28 rfl ?_
    refine am_iload_n dX10_told_29 rfl ?_
    refine am_callV (cvj := am_ci) (mtj := mX10_of) (dj := 0) (nj := 2) (rcj := 0) (rsj := 0) (rc' := 0) (rs' := 0) (ci := 10) (st' := fun a9 => (am_I a9 :: [])) ⟨_, rfl, rfl⟩ [am_I l1, am_I l2] [] dX10_told_30 okX10_of lk_RX10_99 (fun zA zH zE => txX10_of l0 l1 l2 h4 zA zH zE) rfl (fun _ => rfl) (by decide) rfl (Nat.le_of_ble_eq_true rfl) (by decide) (by decide) (fun r7 h8 => ?_)
    refine am_goto (tgt := 41) dX10_told_33 (by decide) ?_
    exact am_iret dX10_told_41 rfl rfl
  refine am_ldc (v := (-1000000001)) dX10_told_18 wd1060 ?_
  exact am_iret dX10_told_20 rfl rfl
theorem txX10_told {xs : List Int32} (l0 : Option Nat) (l1 : Int32) (l2 : Int32) (h : am_H) (a : Int32) (h2 : am_H) (e : fxX10_told l0 l1 l2 h = some (a, h2)) : am_Ct xs mX10_told 2 0 0 [am_R l0, am_I l1, am_I l2] h (fun v h3 => v = am_ci a ∧ h3 = h2) := am_meth okX10_told (Nat.le_of_ble_eq_true rfl) rfl (sxX10_told l0 l1 l2 h) e
theorem dX10_isUnder_0 : am_at cX10_isUnder 0 (.iload_n 1) 1 1 := by decide +kernel
theorem dX10_isUnder_1 : am_at cX10_isUnder 1 (.ifCond .eq 28) 3 4 := by decide +kernel
theorem dX10_isUnder_4 : am_at cX10_isUnder 4 (.iload_n 0) 1 5 := by decide +kernel
theorem dX10_isUnder_5 : am_at cX10_isUnder 5 (.iload_n 1) 1 6 := by decide +kernel
theorem dX10_isUnder_6 : am_at cX10_isUnder 6 (.if_icmp .eq 23) 3 9 := by decide +kernel
theorem dX10_isUnder_9 : am_at cX10_isUnder 9 (.iload_n 1) 1 10 := by decide +kernel
theorem dX10_isUnder_10 : am_at cX10_isUnder 10 (.iconst 1) 1 11 := by decide +kernel
theorem dX10_isUnder_11 : am_at cX10_isUnder 11 (.if_icmp .ne 8) 3 14 := by decide +kernel
theorem dX10_isUnder_14 : am_at cX10_isUnder 14 (.iload_n 0) 1 15 := by decide +kernel
theorem dX10_isUnder_15 : am_at cX10_isUnder 15 (.iconst 3) 1 16 := by decide +kernel
theorem dX10_isUnder_16 : am_at cX10_isUnder 16 (.if_icmp .eq 13) 3 19 := by decide +kernel
theorem dX10_isUnder_19 : am_at cX10_isUnder 19 (.iload_n 1) 1 20 := by decide +kernel
theorem dX10_isUnder_20 : am_at cX10_isUnder 20 (.iconst 2) 1 21 := by decide +kernel
theorem dX10_isUnder_21 : am_at cX10_isUnder 21 (.if_icmp .ne 12) 3 24 := by decide +kernel
theorem dX10_isUnder_24 : am_at cX10_isUnder 24 (.iload_n 0) 1 25 := by decide +kernel
theorem dX10_isUnder_25 : am_at cX10_isUnder 25 (.iconst 4) 1 26 := by decide +kernel
theorem dX10_isUnder_26 : am_at cX10_isUnder 26 (.if_icmp .ne 7) 3 29 := by decide +kernel
theorem dX10_isUnder_29 : am_at cX10_isUnder 29 (.iconst 1) 1 30 := by decide +kernel
theorem dX10_isUnder_30 : am_at cX10_isUnder 30 (.goto 4) 3 33 := by decide +kernel
theorem dX10_isUnder_33 : am_at cX10_isUnder 33 (.iconst 0) 1 34 := by decide +kernel
theorem dX10_isUnder_34 : am_at cX10_isUnder 34 (.ireturn) 1 35 := by decide +kernel
def fxX10_isUnder_b29 (h : am_H) : Option (Int32 × am_H) := am_gd (am_bz (1 : Int32)) (some ((1 : Int32), h))
set_option maxRecDepth 100000 in
theorem sxX10_isUnder_b29 {xs : List Int32} (h : am_H) : am_Sm xs am_ci mX10_isUnder 0 0 0 29 [none, none] [] h (fxX10_isUnder_b29 h) := by
  unfold fxX10_isUnder_b29
  refine am_iconst (v := 1) dX10_isUnder_29 (by decide) ?_
  refine am_goto (tgt := 34) dX10_isUnder_30 (by decide) ?_
  exact am_zret dX10_isUnder_34 rfl rfl
def fxX10_isUnder_b19 (l0 : Int32) (l1 : Int32) (h : am_H) : Option (Int32 × am_H) := if l1 = (2 : Int32) then (if l0 = (4 : Int32) then (fxX10_isUnder_b29 h) else (am_gd (am_bz (0 : Int32)) (some ((0 : Int32), h)))) else (am_gd (am_bz (0 : Int32)) (some ((0 : Int32), h)))
set_option maxRecDepth 100000 in
theorem sxX10_isUnder_b19 {xs : List Int32} (l0 : Int32) (l1 : Int32) (h : am_H) : am_Sm xs am_ci mX10_isUnder 0 0 0 19 [some (am_I l0), some (am_I l1)] [] h (fxX10_isUnder_b19 l0 l1 h) := by
  unfold fxX10_isUnder_b19
  refine am_iload_n dX10_isUnder_19 rfl ?_
  refine am_iconst (v := 2) dX10_isUnder_20 (by decide) ?_
  refine am_icmp_ne (tgt := 33) dX10_isUnder_21 (by decide) (fun c6 => ?_) (fun c6 => ?_)
  · refine am_iconst (v := 0) dX10_isUnder_33 (by decide) ?_
    exact am_zret dX10_isUnder_34 rfl rfl
  refine am_iload_n dX10_isUnder_24 rfl ?_
  refine am_iconst (v := 4) dX10_isUnder_25 (by decide) ?_
  refine am_icmp_ne (tgt := 33) dX10_isUnder_26 (by decide) (fun c5 => ?_) (fun c5 => ?_)
  · refine am_iconst (v := 0) dX10_isUnder_33 (by decide) ?_
    exact am_zret dX10_isUnder_34 rfl rfl
  exact am_weak (sxX10_isUnder_b29 h) trivial (Nat.le_refl _) (Nat.le_refl _)
def fxX10_isUnder (l0 : Int32) (l1 : Int32) (h : am_H) : Option (Int32 × am_H) := if l1 = 0 then (fxX10_isUnder_b29 h) else (if l0 = l1 then (fxX10_isUnder_b29 h) else (if l1 = (1 : Int32) then (if l0 = (3 : Int32) then (fxX10_isUnder_b29 h) else (fxX10_isUnder_b19 l0 l1 h)) else (fxX10_isUnder_b19 l0 l1 h)))
set_option maxRecDepth 100000 in
theorem sxX10_isUnder {xs : List Int32} (l0 : Int32) (l1 : Int32) (h : am_H) : am_Sm xs am_ci mX10_isUnder 0 0 0 0 [some (am_I l0), some (am_I l1)] [] h (fxX10_isUnder l0 l1 h) := by
  unfold fxX10_isUnder
  refine am_iload_n dX10_isUnder_0 rfl ?_
  refine am_if_eq (tgt := 29) dX10_isUnder_1 (by decide) (fun c4 => ?_) (fun c4 => ?_)
  · exact am_weak (sxX10_isUnder_b29 h) trivial (Nat.le_refl _) (Nat.le_refl _)
  refine am_iload_n dX10_isUnder_4 rfl ?_
  refine am_iload_n dX10_isUnder_5 rfl ?_
  refine am_icmp_eq (tgt := 29) dX10_isUnder_6 (by decide) (fun c3 => ?_) (fun c3 => ?_)
  · exact am_weak (sxX10_isUnder_b29 h) trivial (Nat.le_refl _) (Nat.le_refl _)
  refine am_iload_n dX10_isUnder_9 rfl ?_
  refine am_iconst (v := 1) dX10_isUnder_10 (by decide) ?_
  refine am_icmp_ne (tgt := 19) dX10_isUnder_11 (by decide) (fun c2 => ?_) (fun c2 => ?_)
  · exact am_weak (sxX10_isUnder_b19 l0 l1 h) ⟨rfl, ⟨rfl, trivial⟩⟩ (Nat.le_refl _) (Nat.le_refl _)
  refine am_iload_n dX10_isUnder_14 rfl ?_
  refine am_iconst (v := 3) dX10_isUnder_15 (by decide) ?_
  refine am_icmp_eq (tgt := 29) dX10_isUnder_16 (by decide) (fun c1 => ?_) (fun c1 => ?_)
  · exact am_weak (sxX10_isUnder_b29 h) trivial (Nat.le_refl _) (Nat.le_refl _)
  exact am_weak (sxX10_isUnder_b19 l0 l1 h) ⟨rfl, ⟨rfl, trivial⟩⟩ (Nat.le_refl _) (Nat.le_refl _)
theorem txX10_isUnder {xs : List Int32} (l0 : Int32) (l1 : Int32) (h : am_H) (a : Int32) (h2 : am_H) (e : fxX10_isUnder l0 l1 h = some (a, h2)) : am_Ct xs mX10_isUnder 0 0 0 [am_I l0, am_I l1] h (fun v h3 => v = am_ci a ∧ h3 = h2) := am_meth okX10_isUnder (Nat.le_of_ble_eq_true rfl) rfl (sxX10_isUnder l0 l1 h) e
theorem dX10_as_0 : am_at cX10_as 0 (.aload_n 0) 1 1 := by decide +kernel
theorem dX10_as_1 : am_at cX10_as 1 (.iload_n 1) 1 2 := by decide +kernel
theorem dX10_as_2 : am_at cX10_as 2 (.invokevirtual 103) 3 5 := by decide +kernel
theorem dX10_as_5 : am_at cX10_as 5 (.ifCond .eq 12) 3 8 := by decide +kernel
theorem dX10_as_8 : am_at cX10_as 8 (.iload_n 2) 1 9 := by decide +kernel
theorem dX10_as_9 : am_at cX10_as 9 (.iconst 0) 1 10 := by decide +kernel
theorem dX10_as_10 : am_at cX10_as 10 (.iconst 5) 1 11 := by decide +kernel
theorem dX10_as_11 : am_at cX10_as 11 (.invokestatic 85) 3 14 := by decide +kernel
theorem dX10_as_14 : am_at cX10_as 14 (.ifCond .ne 6) 3 17 := by decide +kernel
theorem dX10_as_17 : am_at cX10_as 17 (.ldc 93) 2 19 := by decide +kernel
theorem dX10_as_19 : am_at cX10_as 19 (.ireturn) 1 20 := by decide +kernel
theorem dX10_as_20 : am_at cX10_as 20 (.aload_n 0) 1 21 := by decide +kernel
theorem dX10_as_21 : am_at cX10_as 21 (.iload_n 1) 1 22 := by decide +kernel
theorem dX10_as_22 : am_at cX10_as 22 (.iconst 0) 1 23 := by decide +kernel
theorem dX10_as_23 : am_at cX10_as 23 (.invokevirtual 99) 3 26 := by decide +kernel
theorem dX10_as_26 : am_at cX10_as 26 (.iload_n 2) 1 27 := by decide +kernel
theorem dX10_as_27 : am_at cX10_as 27 (.invokestatic 111) 3 30 := by decide +kernel
theorem dX10_as_30 : am_at cX10_as 30 (.ifCond .eq 12) 3 33 := by decide +kernel
theorem dX10_as_33 : am_at cX10_as 33 (.aload_n 0) 1 34 := by decide +kernel
theorem dX10_as_34 : am_at cX10_as 34 (.iload_n 1) 1 35 := by decide +kernel
theorem dX10_as_35 : am_at cX10_as 35 (.iconst 3) 1 36 := by decide +kernel
theorem dX10_as_36 : am_at cX10_as 36 (.invokevirtual 99) 3 39 := by decide +kernel
theorem dX10_as_39 : am_at cX10_as 39 (.goto 5) 3 42 := by decide +kernel
theorem dX10_as_42 : am_at cX10_as 42 (.ldc 115) 2 44 := by decide +kernel
theorem dX10_as_44 : am_at cX10_as 44 (.ireturn) 1 45 := by decide +kernel
def fxX10_as (l0 : Option Nat) (l1 : Int32) (l2 : Int32) (h : am_H) : Option (Int32 × am_H) := am_gd (am_ob h l0 10) (am_bd (fxX10_isGlove l0 l1 h) (fun r1 h2 => if r1 = 0 then (some ((-1000000001 : Int32), h2)) else (am_bd (fxX10_in l2 (0 : Int32) (5 : Int32) h2) (fun r3 h4 => if r3 = 0 then (some ((-1000000001 : Int32), h4)) else (am_gd (am_ob h4 l0 10) (am_bd (fxX10_of l0 l1 (0 : Int32) h4) (fun r5 h6 => am_bd (fxX10_isUnder r5 l2 h6) (fun r7 h8 => if r7 = 0 then (some ((-1000000012 : Int32), h8)) else (am_gd (am_ob h8 l0 10) (am_bd (fxX10_of l0 l1 (3 : Int32) h8) (fun r9 h10 => some (r9, h10))))))))))))
set_option maxRecDepth 100000 in
theorem sxX10_as {xs : List Int32} (l0 : Option Nat) (l1 : Int32) (l2 : Int32) (h : am_H) : am_Sm xs am_ci mX10_as 2 0 0 0 [some (am_R l0), some (am_I l1), some (am_I l2)] [] h (fxX10_as l0 l1 l2 h) := by
  unfold fxX10_as
  refine am_aload_n dX10_as_0 rfl ?_
  refine am_iload_n dX10_as_1 rfl ?_
  refine am_callV (cvj := am_ci) (mtj := mX10_isGlove) (dj := 1) (nj := 1) (rcj := 0) (rsj := 0) (rc' := 0) (rs' := 0) (ci := 10) (st' := fun a9 => (am_I a9 :: [])) ⟨_, rfl, rfl⟩ [am_I l1] [] dX10_as_2 okX10_isGlove lk_RX10_103 (fun zA zH zE => txX10_isGlove l0 l1 h zA zH zE) rfl (fun _ => rfl) (by decide) rfl (Nat.le_of_ble_eq_true rfl) (by decide) (by decide) (fun r1 h2 => ?_)
  refine am_if_eq (tgt := 17) dX10_as_5 (by decide) (fun c13 => ?_) (fun c13 => ?_)
  · refine am_ldc (v := (-1000000001)) dX10_as_17 wd1060 ?_
    exact am_iret dX10_as_19 rfl rfl
  refine am_iload_n dX10_as_8 rfl ?_
  refine am_iconst (v := 0) dX10_as_9 (by decide) ?_
  refine am_iconst (v := 5) dX10_as_10 (by decide) ?_
  refine am_callS (cvj := am_ci) (mtj := mX10_in) (dj := 0) (nj := 3) (rcj := 0) (rsj := 0) (rc' := 0) (rs' := 0) (st' := fun a9 => (am_I a9 :: [])) [am_I l2, am_I (0 : Int32), am_I (5 : Int32)] [] dX10_as_11 okX10_in lk_RX10_85 (fun zA zH zE => txX10_in l2 (0 : Int32) (5 : Int32) h2 zA zH zE) rfl (fun _ => rfl) (by decide) rfl (Nat.le_of_ble_eq_true rfl) (by decide) (by decide) (fun r3 h4 => ?_)
  refine am_if_ne (tgt := 20) dX10_as_14 (by decide) (fun c12 => ?_) (fun c12 => ?_)
  · refine am_aload_n dX10_as_20 rfl ?_
    refine am_iload_n dX10_as_21 rfl ?_
    refine am_iconst (v := 0) dX10_as_22 (by decide) ?_
    refine am_callV (cvj := am_ci) (mtj := mX10_of) (dj := 0) (nj := 2) (rcj := 0) (rsj := 0) (rc' := 0) (rs' := 0) (ci := 10) (st' := fun a9 => (am_I a9 :: [])) ⟨_, rfl, rfl⟩ [am_I l1, am_I (0 : Int32)] [] dX10_as_23 okX10_of lk_RX10_99 (fun zA zH zE => txX10_of l0 l1 (0 : Int32) h4 zA zH zE) rfl (fun _ => rfl) (by decide) rfl (Nat.le_of_ble_eq_true rfl) (by decide) (by decide) (fun r5 h6 => ?_)
    refine am_iload_n dX10_as_26 rfl ?_
    refine am_callS (cvj := am_ci) (mtj := mX10_isUnder) (dj := 0) (nj := 2) (rcj := 0) (rsj := 0) (rc' := 0) (rs' := 0) (st' := fun a9 => (am_I a9 :: [])) [am_I r5, am_I l2] [] dX10_as_27 okX10_isUnder lk_RX10_111 (fun zA zH zE => txX10_isUnder r5 l2 h6 zA zH zE) rfl (fun _ => rfl) (by decide) rfl (Nat.le_of_ble_eq_true rfl) (by decide) (by decide) (fun r7 h8 => ?_)
    refine am_if_eq (tgt := 42) dX10_as_30 (by decide) (fun c11 => ?_) (fun c11 => ?_)
    · refine am_ldc (v := (-1000000012)) dX10_as_42 wd1093 ?_
      exact am_iret dX10_as_44 rfl rfl
    refine am_aload_n dX10_as_33 rfl ?_
    refine am_iload_n dX10_as_34 rfl ?_
    refine am_iconst (v := 3) dX10_as_35 (by decide) ?_
    refine am_callV (cvj := am_ci) (mtj := mX10_of) (dj := 0) (nj := 2) (rcj := 0) (rsj := 0) (rc' := 0) (rs' := 0) (ci := 10) (st' := fun a9 => (am_I a9 :: [])) ⟨_, rfl, rfl⟩ [am_I l1, am_I (3 : Int32)] [] dX10_as_36 okX10_of lk_RX10_99 (fun zA zH zE => txX10_of l0 l1 (3 : Int32) h8 zA zH zE) rfl (fun _ => rfl) (by decide) rfl (Nat.le_of_ble_eq_true rfl) (by decide) (by decide) (fun r9 h10 => ?_)
    refine am_goto (tgt := 44) dX10_as_39 (by decide) ?_
    exact am_iret dX10_as_44 rfl rfl
  refine am_ldc (v := (-1000000001)) dX10_as_17 wd1060 ?_
  exact am_iret dX10_as_19 rfl rfl
theorem txX10_as {xs : List Int32} (l0 : Option Nat) (l1 : Int32) (l2 : Int32) (h : am_H) (a : Int32) (h2 : am_H) (e : fxX10_as l0 l1 l2 h = some (a, h2)) : am_Ct xs mX10_as 2 0 0 [am_R l0, am_I l1, am_I l2] h (fun v h3 => v = am_ci a ∧ h3 = h2) := am_meth okX10_as (Nat.le_of_ble_eq_true rfl) rfl (sxX10_as l0 l1 l2 h) e
theorem dX10_turns_0 : am_at cX10_turns 0 (.aload_n 0) 1 1 := by decide +kernel
theorem dX10_turns_1 : am_at cX10_turns 1 (.iload_n 1) 1 2 := by decide +kernel
theorem dX10_turns_2 : am_at cX10_turns 2 (.invokevirtual 103) 3 5 := by decide +kernel
theorem dX10_turns_5 : am_at cX10_turns 5 (.ifCond .eq 27) 3 8 := by decide +kernel
theorem dX10_turns_8 : am_at cX10_turns 8 (.iload_n 2) 1 9 := by decide +kernel
theorem dX10_turns_9 : am_at cX10_turns 9 (.iconst 0) 1 10 := by decide +kernel
theorem dX10_turns_10 : am_at cX10_turns 10 (.iconst 5) 1 11 := by decide +kernel
theorem dX10_turns_11 : am_at cX10_turns 11 (.invokestatic 85) 3 14 := by decide +kernel
theorem dX10_turns_14 : am_at cX10_turns 14 (.ifCond .eq 18) 3 17 := by decide +kernel
theorem dX10_turns_17 : am_at cX10_turns 17 (.aload_n 0) 1 18 := by decide +kernel
theorem dX10_turns_18 : am_at cX10_turns 18 (.bipush 16) 2 20 := by decide +kernel
theorem dX10_turns_20 : am_at cX10_turns 20 (.bipush 6) 2 22 := by decide +kernel
theorem dX10_turns_22 : am_at cX10_turns 22 (.iload_n 1) 1 23 := by decide +kernel
theorem dX10_turns_23 : am_at cX10_turns 23 (.imul) 1 24 := by decide +kernel
theorem dX10_turns_24 : am_at cX10_turns 24 (.iadd) 1 25 := by decide +kernel
theorem dX10_turns_25 : am_at cX10_turns 25 (.iload_n 2) 1 26 := by decide +kernel
theorem dX10_turns_26 : am_at cX10_turns 26 (.invokevirtual 116) 3 29 := by decide +kernel
theorem dX10_turns_29 : am_at cX10_turns 29 (.goto 5) 3 32 := by decide +kernel
theorem dX10_turns_32 : am_at cX10_turns 32 (.ldc 93) 2 34 := by decide +kernel
theorem dX10_turns_34 : am_at cX10_turns 34 (.ireturn) 1 35 := by decide +kernel
def fxX10_turns (l0 : Option Nat) (l1 : Int32) (l2 : Int32) (h : am_H) : Option (Int32 × am_H) := am_gd (am_ob h l0 10) (am_bd (fxX10_isGlove l0 l1 h) (fun r1 h2 => if r1 = 0 then (some ((-1000000001 : Int32), h2)) else (am_bd (fxX10_in l2 (0 : Int32) (5 : Int32) h2) (fun r3 h4 => if r3 = 0 then (some ((-1000000001 : Int32), h4)) else (am_gd (am_ob h4 l0 10) (am_bd (fxX10_becomes l0 ((16 : Int32) + ((6 : Int32) * l1)) l2 h4) (fun r5 h6 => some (r5, h6))))))))
set_option maxRecDepth 100000 in
theorem sxX10_turns {xs : List Int32} (l0 : Option Nat) (l1 : Int32) (l2 : Int32) (h : am_H) : am_Sm xs am_ci mX10_turns 2 0 0 0 [some (am_R l0), some (am_I l1), some (am_I l2)] [] h (fxX10_turns l0 l1 l2 h) := by
  unfold fxX10_turns
  refine am_aload_n dX10_turns_0 rfl ?_
  refine am_iload_n dX10_turns_1 rfl ?_
  refine am_callV (cvj := am_ci) (mtj := mX10_isGlove) (dj := 1) (nj := 1) (rcj := 0) (rsj := 0) (rc' := 0) (rs' := 0) (ci := 10) (st' := fun a9 => (am_I a9 :: [])) ⟨_, rfl, rfl⟩ [am_I l1] [] dX10_turns_2 okX10_isGlove lk_RX10_103 (fun zA zH zE => txX10_isGlove l0 l1 h zA zH zE) rfl (fun _ => rfl) (by decide) rfl (Nat.le_of_ble_eq_true rfl) (by decide) (by decide) (fun r1 h2 => ?_)
  refine am_if_eq (tgt := 32) dX10_turns_5 (by decide) (fun c8 => ?_) (fun c8 => ?_)
  · refine am_ldc (v := (-1000000001)) dX10_turns_32 wd1060 ?_
    exact am_iret dX10_turns_34 rfl rfl
  refine am_iload_n dX10_turns_8 rfl ?_
  refine am_iconst (v := 0) dX10_turns_9 (by decide) ?_
  refine am_iconst (v := 5) dX10_turns_10 (by decide) ?_
  refine am_callS (cvj := am_ci) (mtj := mX10_in) (dj := 0) (nj := 3) (rcj := 0) (rsj := 0) (rc' := 0) (rs' := 0) (st' := fun a9 => (am_I a9 :: [])) [am_I l2, am_I (0 : Int32), am_I (5 : Int32)] [] dX10_turns_11 okX10_in lk_RX10_85 (fun zA zH zE => txX10_in l2 (0 : Int32) (5 : Int32) h2 zA zH zE) rfl (fun _ => rfl) (by decide) rfl (Nat.le_of_ble_eq_true rfl) (by decide) (by decide) (fun r3 h4 => ?_)
  refine am_if_eq (tgt := 32) dX10_turns_14 (by decide) (fun c7 => ?_) (fun c7 => ?_)
  · refine am_ldc (v := (-1000000001)) dX10_turns_32 wd1060 ?_
    exact am_iret dX10_turns_34 rfl rfl
  refine am_aload_n dX10_turns_17 rfl ?_
  refine am_bipush (v := 16) dX10_turns_18 (by decide) ?_
  refine am_bipush (v := 6) dX10_turns_20 (by decide) ?_
  refine am_iload_n dX10_turns_22 rfl ?_
  refine am_imul dX10_turns_23 ?_
  refine am_iadd dX10_turns_24 ?_
  refine am_iload_n dX10_turns_25 rfl ?_
  refine am_callV (cvj := am_ci) (mtj := mX10_becomes) (dj := 0) (nj := 2) (rcj := 0) (rsj := 0) (rc' := 0) (rs' := 0) (ci := 10) (st' := fun a9 => (am_I a9 :: [])) ⟨_, rfl, rfl⟩ [am_I ((16 : Int32) + ((6 : Int32) * l1)), am_I l2] [] dX10_turns_26 okX10_becomes lk_RX10_116 (fun zA zH zE => txX10_becomes l0 ((16 : Int32) + ((6 : Int32) * l1)) l2 h4 zA zH zE) rfl (fun _ => rfl) (by decide) rfl (Nat.le_of_ble_eq_true rfl) (by decide) (by decide) (fun r5 h6 => ?_)
  refine am_goto (tgt := 34) dX10_turns_29 (by decide) ?_
  exact am_iret dX10_turns_34 rfl rfl
theorem txX10_turns {xs : List Int32} (l0 : Option Nat) (l1 : Int32) (l2 : Int32) (h : am_H) (a : Int32) (h2 : am_H) (e : fxX10_turns l0 l1 l2 h = some (a, h2)) : am_Ct xs mX10_turns 2 0 0 [am_R l0, am_I l1, am_I l2] h (fun v h3 => v = am_ci a ∧ h3 = h2) := am_meth okX10_turns (Nat.le_of_ble_eq_true rfl) rfl (sxX10_turns l0 l1 l2 h) e
theorem dX10_set_0 : am_at cX10_set 0 (.aload_n 0) 1 1 := by decide +kernel
theorem dX10_set_1 : am_at cX10_set 1 (.iload_n 1) 1 2 := by decide +kernel
theorem dX10_set_2 : am_at cX10_set 2 (.invokevirtual 103) 3 5 := by decide +kernel
theorem dX10_set_5 : am_at cX10_set 5 (.ifCond .eq 41) 3 8 := by decide +kernel
theorem dX10_set_8 : am_at cX10_set 8 (.iload_n 2) 1 9 := by decide +kernel
theorem dX10_set_9 : am_at cX10_set 9 (.iconst 1) 1 10 := by decide +kernel
theorem dX10_set_10 : am_at cX10_set 10 (.iconst 5) 1 11 := by decide +kernel
theorem dX10_set_11 : am_at cX10_set 11 (.invokestatic 85) 3 14 := by decide +kernel
theorem dX10_set_14 : am_at cX10_set 14 (.ifCond .eq 32) 3 17 := by decide +kernel
theorem dX10_set_17 : am_at cX10_set 17 (.iload_n 3) 1 18 := by decide +kernel
theorem dX10_set_18 : am_at cX10_set 18 (.iconst 0) 1 19 := by decide +kernel
theorem dX10_set_19 : am_at cX10_set 19 (.iload_n 2) 1 20 := by decide +kernel
theorem dX10_set_20 : am_at cX10_set 20 (.invokestatic 119) 3 23 := by decide +kernel
theorem dX10_set_23 : am_at cX10_set 23 (.invokestatic 85) 3 26 := by decide +kernel
theorem dX10_set_26 : am_at cX10_set 26 (.ifCond .eq 20) 3 29 := by decide +kernel
theorem dX10_set_29 : am_at cX10_set 29 (.aload_n 0) 1 30 := by decide +kernel
theorem dX10_set_30 : am_at cX10_set 30 (.bipush 16) 2 32 := by decide +kernel
theorem dX10_set_32 : am_at cX10_set 32 (.bipush 6) 2 34 := by decide +kernel
theorem dX10_set_34 : am_at cX10_set 34 (.iload_n 1) 1 35 := by decide +kernel
theorem dX10_set_35 : am_at cX10_set 35 (.imul) 1 36 := by decide +kernel
theorem dX10_set_36 : am_at cX10_set 36 (.iadd) 1 37 := by decide +kernel
theorem dX10_set_37 : am_at cX10_set 37 (.iload_n 2) 1 38 := by decide +kernel
theorem dX10_set_38 : am_at cX10_set 38 (.iadd) 1 39 := by decide +kernel
theorem dX10_set_39 : am_at cX10_set 39 (.iload_n 3) 1 40 := by decide +kernel
theorem dX10_set_40 : am_at cX10_set 40 (.invokevirtual 116) 3 43 := by decide +kernel
theorem dX10_set_43 : am_at cX10_set 43 (.goto 5) 3 46 := by decide +kernel
theorem dX10_set_46 : am_at cX10_set 46 (.ldc 93) 2 48 := by decide +kernel
theorem dX10_set_48 : am_at cX10_set 48 (.ireturn) 1 49 := by decide +kernel
def fxX10_set (l0 : Option Nat) (l1 : Int32) (l2 : Int32) (l3 : Int32) (h : am_H) : Option (Int32 × am_H) := am_gd (am_ob h l0 10) (am_bd (fxX10_isGlove l0 l1 h) (fun r1 h2 => if r1 = 0 then (some ((-1000000001 : Int32), h2)) else (am_bd (fxX10_in l2 (1 : Int32) (5 : Int32) h2) (fun r3 h4 => if r3 = 0 then (some ((-1000000001 : Int32), h4)) else (am_bd (fxX10_mostOf l2 h4) (fun r5 h6 => am_bd (fxX10_in l3 (0 : Int32) r5 h6) (fun r7 h8 => if r7 = 0 then (some ((-1000000001 : Int32), h8)) else (am_gd (am_ob h8 l0 10) (am_bd (fxX10_becomes l0 (((16 : Int32) + ((6 : Int32) * l1)) + l2) l3 h8) (fun r9 h10 => some (r9, h10)))))))))))
set_option maxRecDepth 100000 in
theorem sxX10_set {xs : List Int32} (l0 : Option Nat) (l1 : Int32) (l2 : Int32) (l3 : Int32) (h : am_H) : am_Sm xs am_ci mX10_set 2 0 0 0 [some (am_R l0), some (am_I l1), some (am_I l2), some (am_I l3)] [] h (fxX10_set l0 l1 l2 l3 h) := by
  unfold fxX10_set
  refine am_aload_n dX10_set_0 rfl ?_
  refine am_iload_n dX10_set_1 rfl ?_
  refine am_callV (cvj := am_ci) (mtj := mX10_isGlove) (dj := 1) (nj := 1) (rcj := 0) (rsj := 0) (rc' := 0) (rs' := 0) (ci := 10) (st' := fun a9 => (am_I a9 :: [])) ⟨_, rfl, rfl⟩ [am_I l1] [] dX10_set_2 okX10_isGlove lk_RX10_103 (fun zA zH zE => txX10_isGlove l0 l1 h zA zH zE) rfl (fun _ => rfl) (by decide) rfl (Nat.le_of_ble_eq_true rfl) (by decide) (by decide) (fun r1 h2 => ?_)
  refine am_if_eq (tgt := 46) dX10_set_5 (by decide) (fun c13 => ?_) (fun c13 => ?_)
  · refine am_ldc (v := (-1000000001)) dX10_set_46 wd1060 ?_
    exact am_iret dX10_set_48 rfl rfl
  refine am_iload_n dX10_set_8 rfl ?_
  refine am_iconst (v := 1) dX10_set_9 (by decide) ?_
  refine am_iconst (v := 5) dX10_set_10 (by decide) ?_
  refine am_callS (cvj := am_ci) (mtj := mX10_in) (dj := 0) (nj := 3) (rcj := 0) (rsj := 0) (rc' := 0) (rs' := 0) (st' := fun a9 => (am_I a9 :: [])) [am_I l2, am_I (1 : Int32), am_I (5 : Int32)] [] dX10_set_11 okX10_in lk_RX10_85 (fun zA zH zE => txX10_in l2 (1 : Int32) (5 : Int32) h2 zA zH zE) rfl (fun _ => rfl) (by decide) rfl (Nat.le_of_ble_eq_true rfl) (by decide) (by decide) (fun r3 h4 => ?_)
  refine am_if_eq (tgt := 46) dX10_set_14 (by decide) (fun c12 => ?_) (fun c12 => ?_)
  · refine am_ldc (v := (-1000000001)) dX10_set_46 wd1060 ?_
    exact am_iret dX10_set_48 rfl rfl
  refine am_iload_n dX10_set_17 rfl ?_
  refine am_iconst (v := 0) dX10_set_18 (by decide) ?_
  refine am_iload_n dX10_set_19 rfl ?_
  refine am_callS (cvj := am_ci) (mtj := mX10_mostOf) (dj := 0) (nj := 1) (rcj := 0) (rsj := 0) (rc' := 0) (rs' := 0) (st' := fun a9 => (am_I a9 :: [am_I (0 : Int32), am_I l3])) [am_I l2] [am_I (0 : Int32), am_I l3] dX10_set_20 okX10_mostOf lk_RX10_119 (fun zA zH zE => txX10_mostOf l2 h4 zA zH zE) rfl (fun _ => rfl) (by decide) rfl (Nat.le_of_ble_eq_true rfl) (by decide) (by decide) (fun r5 h6 => ?_)
  refine am_callS (cvj := am_ci) (mtj := mX10_in) (dj := 0) (nj := 3) (rcj := 0) (rsj := 0) (rc' := 0) (rs' := 0) (st' := fun a9 => (am_I a9 :: [])) [am_I l3, am_I (0 : Int32), am_I r5] [] dX10_set_23 okX10_in lk_RX10_85 (fun zA zH zE => txX10_in l3 (0 : Int32) r5 h6 zA zH zE) rfl (fun _ => rfl) (by decide) rfl (Nat.le_of_ble_eq_true rfl) (by decide) (by decide) (fun r7 h8 => ?_)
  refine am_if_eq (tgt := 46) dX10_set_26 (by decide) (fun c11 => ?_) (fun c11 => ?_)
  · refine am_ldc (v := (-1000000001)) dX10_set_46 wd1060 ?_
    exact am_iret dX10_set_48 rfl rfl
  refine am_aload_n dX10_set_29 rfl ?_
  refine am_bipush (v := 16) dX10_set_30 (by decide) ?_
  refine am_bipush (v := 6) dX10_set_32 (by decide) ?_
  refine am_iload_n dX10_set_34 rfl ?_
  refine am_imul dX10_set_35 ?_
  refine am_iadd dX10_set_36 ?_
  refine am_iload_n dX10_set_37 rfl ?_
  refine am_iadd dX10_set_38 ?_
  refine am_iload_n dX10_set_39 rfl ?_
  refine am_callV (cvj := am_ci) (mtj := mX10_becomes) (dj := 0) (nj := 2) (rcj := 0) (rsj := 0) (rc' := 0) (rs' := 0) (ci := 10) (st' := fun a9 => (am_I a9 :: [])) ⟨_, rfl, rfl⟩ [am_I (((16 : Int32) + ((6 : Int32) * l1)) + l2), am_I l3] [] dX10_set_40 okX10_becomes lk_RX10_116 (fun zA zH zE => txX10_becomes l0 (((16 : Int32) + ((6 : Int32) * l1)) + l2) l3 h8 zA zH zE) rfl (fun _ => rfl) (by decide) rfl (Nat.le_of_ble_eq_true rfl) (by decide) (by decide) (fun r9 h10 => ?_)
  refine am_goto (tgt := 48) dX10_set_43 (by decide) ?_
  exact am_iret dX10_set_48 rfl rfl
theorem txX10_set {xs : List Int32} (l0 : Option Nat) (l1 : Int32) (l2 : Int32) (l3 : Int32) (h : am_H) (a : Int32) (h2 : am_H) (e : fxX10_set l0 l1 l2 l3 h = some (a, h2)) : am_Ct xs mX10_set 2 0 0 [am_R l0, am_I l1, am_I l2, am_I l3] h (fun v h3 => v = am_ci a ∧ h3 = h2) := am_meth okX10_set (Nat.le_of_ble_eq_true rfl) rfl (sxX10_set l0 l1 l2 l3 h) e
