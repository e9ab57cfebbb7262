theorem dJ0_coder_7d493_0 : am_at cJ0_coder_7d493 0 (.getstatic 38) 3 3 := by decide +kernel
theorem dJ0_coder_7d493_3 : am_at cJ0_coder_7d493 3 (.ifCond .eq 10) 3 6 := by decide +kernel
theorem dJ0_coder_7d493_6 : am_at cJ0_coder_7d493 6 (.aload_n 0) 1 7 := by decide +kernel
theorem dJ0_coder_7d493_7 : am_at cJ0_coder_7d493 7 (.getfield 15) 3 10 := by decide +kernel
theorem dJ0_coder_7d493_10 : am_at cJ0_coder_7d493 10 (.goto 4) 3 13 := by decide +kernel
theorem dJ0_coder_7d493_13 : am_at cJ0_coder_7d493 13 (.iconst 1) 1 14 := by decide +kernel
theorem dJ0_coder_7d493_14 : am_at cJ0_coder_7d493 14 (.ireturn) 1 15 := by decide +kernel
def fxJ0_coder_7d493 (l0 : Nat) (h : am_H) : Option (Int32 × am_H) := if (1 : Int32) = 0 then (am_gd (am_bz (1 : Int32)) (some ((1 : Int32), h))) else (am_gd (am_bz (0 : Int32)) (some ((0 : Int32), h)))
set_option maxRecDepth 100000 in
theorem sxJ0_coder_7d493 {xs : List Int32} (l0 : Nat) (h : am_H) (hbl0 : 2 ≤ l0 ∧ l0 < 8) : am_Sm xs am_ci mJ0_coder_7d493 0 0 0 0 [some (am_K l0)] [] h (fxJ0_coder_7d493 l0 h) := by
  unfold fxJ0_coder_7d493
  refine am_gsComp dJ0_coder_7d493_0 wd682 ?_
  refine am_if_eq (tgt := 13) dJ0_coder_7d493_3 (by decide) (fun c1 => ?_) (fun c1 => ?_)
  · refine am_iconst (v := 1) dJ0_coder_7d493_13 (by decide) ?_
    exact am_yret dJ0_coder_7d493_14 rfl rfl
  refine am_aload_n dJ0_coder_7d493_6 rfl ?_
  refine am_kgetC dJ0_coder_7d493_7 hbl0.1 hbl0.2 wd1426 ?_
  refine am_goto (tgt := 14) dJ0_coder_7d493_10 (by decide) ?_
  exact am_yret dJ0_coder_7d493_14 rfl rfl
theorem txJ0_coder_7d493 {xs : List Int32} (l0 : Nat) (h : am_H) (hbl0 : 2 ≤ l0 ∧ l0 < 8) (a : Int32) (h2 : am_H) (e : fxJ0_coder_7d493 l0 h = some (a, h2)) : am_Ct xs mJ0_coder_7d493 0 0 0 [am_K l0] h (fun v h3 => v = am_ci a ∧ h3 = h2) := am_meth okJ0_coder_7d493 (Nat.le_of_ble_eq_true rfl) rfl (sxJ0_coder_7d493 l0 h hbl0) e
theorem dJ0_length_8abf5_0 : am_at cJ0_length_8abf5 0 (.aload_n 0) 1 1 := by decide +kernel
theorem dJ0_length_8abf5_1 : am_at cJ0_length_8abf5 1 (.getfield 9) 3 4 := by decide +kernel
theorem dJ0_length_8abf5_4 : am_at cJ0_length_8abf5 4 (.arraylength) 1 5 := by decide +kernel
theorem dJ0_length_8abf5_5 : am_at cJ0_length_8abf5 5 (.aload_n 0) 1 6 := by decide +kernel
theorem dJ0_length_8abf5_6 : am_at cJ0_length_8abf5 6 (.invokevirtual 335) 3 9 := by decide +kernel
theorem dJ0_length_8abf5_9 : am_at cJ0_length_8abf5 9 (.ishr) 1 10 := by decide +kernel
theorem dJ0_length_8abf5_10 : am_at cJ0_length_8abf5 10 (.ireturn) 1 11 := by decide +kernel
def fxJ0_length_8abf5 (l0 : Nat) (h : am_H) : Option (Int32 × am_H) := am_bd (fxJ0_coder_7d493 l0 h) (fun r1 h2 => some (((Int32.ofNat (am_kb9 (10 + l0)).length) >>> (r1 &&& 31)), h2))
set_option maxRecDepth 100000 in
theorem sxJ0_length_8abf5 {xs : List Int32} (l0 : Nat) (h : am_H) (hbl0 : 2 ≤ l0 ∧ l0 < 8) : am_Sm xs am_ci mJ0_length_8abf5 1 0 0 0 [some (am_K l0)] [] h (fxJ0_length_8abf5 l0 h) := by
  unfold fxJ0_length_8abf5
  refine am_aload_n dJ0_length_8abf5_0 rfl ?_
  refine am_kgetV dJ0_length_8abf5_1 hbl0.1 hbl0.2 wd1425 ?_
  refine am_klen9 dJ0_length_8abf5_4 ⟨by have := hbl0; omega, by have := hbl0; omega⟩ ?_
  refine am_aload_n dJ0_length_8abf5_5 rfl ?_
  refine am_callK (cvj := am_ci) (mtj := mJ0_coder_7d493) (dj := 0) (nj := 0) (rcj := 0) (rsj := 0) (rc' := 0) (rs' := 0) (st' := fun a9 => (am_I a9 :: [am_I (Int32.ofNat (am_kb9 (10 + l0)).length)])) hbl0.1 hbl0.2 rfl [] [am_I (Int32.ofNat (am_kb9 (10 + l0)).length)] dJ0_length_8abf5_6 okJ0_coder_7d493 lk_RJ0_335 (fun zA zH zE => txJ0_coder_7d493 l0 h hbl0 zA zH zE) rfl (fun _ => rfl) (by decide) rfl (Nat.le_of_ble_eq_true rfl) (by decide) (by decide) (fun r1 h2 => ?_)
  refine am_ishr dJ0_length_8abf5_9 ?_
  exact am_iret dJ0_length_8abf5_10 rfl rfl
theorem txJ0_length_8abf5 {xs : List Int32} (l0 : Nat) (h : am_H) (hbl0 : 2 ≤ l0 ∧ l0 < 8) (a : Int32) (h2 : am_H) (e : fxJ0_length_8abf5 l0 h = some (a, h2)) : am_Ct xs mJ0_length_8abf5 1 0 0 [am_K l0] h (fun v h3 => v = am_ci a ∧ h3 = h2) := am_meth okJ0_length_8abf5 (Nat.le_of_ble_eq_true rfl) rfl (sxJ0_length_8abf5 l0 h hbl0) e
theorem dJ0_isLatin1_aae02_0 : am_at cJ0_isLatin1_aae02 0 (.getstatic 38) 3 3 := by decide +kernel
theorem dJ0_isLatin1_aae02_3 : am_at cJ0_isLatin1_aae02 3 (.ifCond .eq 14) 3 6 := by decide +kernel
theorem dJ0_isLatin1_aae02_6 : am_at cJ0_isLatin1_aae02 6 (.aload_n 0) 1 7 := by decide +kernel
theorem dJ0_isLatin1_aae02_7 : am_at cJ0_isLatin1_aae02 7 (.getfield 15) 3 10 := by decide +kernel
theorem dJ0_isLatin1_aae02_10 : am_at cJ0_isLatin1_aae02 10 (.ifCond .ne 7) 3 13 := by decide +kernel
theorem dJ0_isLatin1_aae02_13 : am_at cJ0_isLatin1_aae02 13 (.iconst 1) 1 14 := by decide +kernel
theorem dJ0_isLatin1_aae02_14 : am_at cJ0_isLatin1_aae02 14 (.goto 4) 3 17 := by decide +kernel
theorem dJ0_isLatin1_aae02_17 : am_at cJ0_isLatin1_aae02 17 (.iconst 0) 1 18 := by decide +kernel
theorem dJ0_isLatin1_aae02_18 : am_at cJ0_isLatin1_aae02 18 (.ireturn) 1 19 := by decide +kernel
def fxJ0_isLatin1_aae02 (l0 : Nat) (h : am_H) : Option (Int32 × am_H) := if (1 : Int32) = 0 then (am_gd (am_bz (0 : Int32)) (some ((0 : Int32), h))) else (if (0 : Int32) = 0 then (am_gd (am_bz (1 : Int32)) (some ((1 : Int32), h))) else (am_gd (am_bz (0 : Int32)) (some ((0 : Int32), h))))
set_option maxRecDepth 100000 in
theorem sxJ0_isLatin1_aae02 {xs : List Int32} (l0 : Nat) (h : am_H) (hbl0 : 2 ≤ l0 ∧ l0 < 8) : am_Sm xs am_ci mJ0_isLatin1_aae02 0 0 0 0 [some (am_K l0)] [] h (fxJ0_isLatin1_aae02 l0 h) := by
  unfold fxJ0_isLatin1_aae02
  refine am_gsComp dJ0_isLatin1_aae02_0 wd682 ?_
  refine am_if_eq (tgt := 17) dJ0_isLatin1_aae02_3 (by decide) (fun c2 => ?_) (fun c2 => ?_)
  · refine am_iconst (v := 0) dJ0_isLatin1_aae02_17 (by decide) ?_
    exact am_zret dJ0_isLatin1_aae02_18 rfl rfl
  refine am_aload_n dJ0_isLatin1_aae02_6 rfl ?_
  refine am_kgetC dJ0_isLatin1_aae02_7 hbl0.1 hbl0.2 wd1426 ?_
  refine am_if_ne (tgt := 17) dJ0_isLatin1_aae02_10 (by decide) (fun c1 => ?_) (fun c1 => ?_)
  · refine am_iconst (v := 0) dJ0_isLatin1_aae02_17 (by decide) ?_
    exact am_zret dJ0_isLatin1_aae02_18 rfl rfl
  refine am_iconst (v := 1) dJ0_isLatin1_aae02_13 (by decide) ?_
  refine am_goto (tgt := 18) dJ0_isLatin1_aae02_14 (by decide) ?_
  exact am_zret dJ0_isLatin1_aae02_18 rfl rfl
theorem txJ0_isLatin1_aae02 {xs : List Int32} (l0 : Nat) (h : am_H) (hbl0 : 2 ≤ l0 ∧ l0 < 8) (a : Int32) (h2 : am_H) (e : fxJ0_isLatin1_aae02 l0 h = some (a, h2)) : am_Ct xs mJ0_isLatin1_aae02 0 0 0 [am_K l0] h (fun v h3 => v = am_ci a ∧ h3 = h2) := am_meth okJ0_isLatin1_aae02 (Nat.le_of_ble_eq_true rfl) rfl (sxJ0_isLatin1_aae02 l0 h hbl0) e
theorem dJ3_checkIndex_8e157_0 : am_at cJ3_checkIndex_8e157 0 (.iload_n 0) 1 1 := by decide +kernel
theorem dJ3_checkIndex_8e157_1 : am_at cJ3_checkIndex_8e157 1 (.ifCond .lt 8) 3 4 := by decide +kernel
theorem dJ3_checkIndex_8e157_4 : am_at cJ3_checkIndex_8e157 4 (.iload_n 0) 1 5 := by decide +kernel
theorem dJ3_checkIndex_8e157_5 : am_at cJ3_checkIndex_8e157 5 (.iload_n 1) 1 6 := by decide +kernel
theorem dJ3_checkIndex_8e157_6 : am_at cJ3_checkIndex_8e157 6 (.if_icmp .lt 10) 3 9 := by decide +kernel
theorem dJ3_checkIndex_8e157_9 : am_at cJ3_checkIndex_8e157 9 (.aload_n 2) 1 10 := by decide +kernel
theorem dJ3_checkIndex_8e157_10 : am_at cJ3_checkIndex_8e157 10 (.iload_n 0) 1 11 := by decide +kernel
theorem dJ3_checkIndex_8e157_11 : am_at cJ3_checkIndex_8e157 11 (.iload_n 1) 1 12 := by decide +kernel
theorem dJ3_checkIndex_8e157_12 : am_at cJ3_checkIndex_8e157 12 (.invokestatic 95) 3 15 := by decide +kernel
theorem dJ3_checkIndex_8e157_16 : am_at cJ3_checkIndex_8e157 16 (.iload_n 0) 1 17 := by decide +kernel
theorem dJ3_checkIndex_8e157_17 : am_at cJ3_checkIndex_8e157 17 (.ireturn) 1 18 := by decide +kernel
def fxJ3_checkIndex_8e157_b9 (l0 : Int32) (l1 : Int32) (l2 : Nat) (h : am_H) : Option (Int32 × am_H) := none
set_option maxRecDepth 100000 in
theorem sxJ3_checkIndex_8e157_b9 {xs : List Int32} (l0 : Int32) (l1 : Int32) (l2 : Nat) (h : am_H) : am_Sm xs am_ci mJ3_checkIndex_8e157 0 0 0 9 [some (am_I l0), some (am_I l1), some (am_K l2)] [] h (fxJ3_checkIndex_8e157_b9 l0 l1 l2 h) := by
  unfold fxJ3_checkIndex_8e157_b9
  refine am_aload_n dJ3_checkIndex_8e157_9 rfl ?_
  refine am_iload_n dJ3_checkIndex_8e157_10 rfl ?_
  refine am_iload_n dJ3_checkIndex_8e157_11 rfl ?_
  exact am_none
def fxJ3_checkIndex_8e157 (l0 : Int32) (l1 : Int32) (l2 : Nat) (h : am_H) : Option (Int32 × am_H) := if l0 < 0 then (fxJ3_checkIndex_8e157_b9 l0 l1 l2 h) else (if l0 < l1 then (some (l0, h)) else (fxJ3_checkIndex_8e157_b9 l0 l1 l2 h))
set_option maxRecDepth 100000 in
theorem sxJ3_checkIndex_8e157 {xs : List Int32} (l0 : Int32) (l1 : Int32) (l2 : Nat) (h : am_H) : am_Sm xs am_ci mJ3_checkIndex_8e157 0 0 0 0 [some (am_I l0), some (am_I l1), some (am_K l2)] [] h (fxJ3_checkIndex_8e157 l0 l1 l2 h) := by
  unfold fxJ3_checkIndex_8e157
  refine am_iload_n dJ3_checkIndex_8e157_0 rfl ?_
  refine am_if_lt (tgt := 9) dJ3_checkIndex_8e157_1 (by decide) (fun c2 => ?_) (fun c2 => ?_)
  · exact am_weak (sxJ3_checkIndex_8e157_b9 l0 l1 l2 h) ⟨rfl, ⟨rfl, ⟨rfl, trivial⟩⟩⟩ (Nat.le_refl _) (Nat.le_refl _)
  refine am_iload_n dJ3_checkIndex_8e157_4 rfl ?_
  refine am_iload_n dJ3_checkIndex_8e157_5 rfl ?_
  refine am_icmp_lt (tgt := 16) dJ3_checkIndex_8e157_6 (by decide) (fun c1 => ?_) (fun c1 => ?_)
  · refine am_iload_n dJ3_checkIndex_8e157_16 rfl ?_
    exact am_iret dJ3_checkIndex_8e157_17 rfl rfl
  exact am_weak (sxJ3_checkIndex_8e157_b9 l0 l1 l2 h) ⟨rfl, ⟨rfl, ⟨rfl, trivial⟩⟩⟩ (Nat.le_refl _) (Nat.le_refl _)
theorem txJ3_checkIndex_8e157 {xs : List Int32} (l0 : Int32) (l1 : Int32) (l2 : Nat) (h : am_H) (a : Int32) (h2 : am_H) (e : fxJ3_checkIndex_8e157 l0 l1 l2 h = some (a, h2)) : am_Ct xs mJ3_checkIndex_8e157 0 0 0 [am_I l0, am_I l1, am_K l2] h (fun v h3 => v = am_ci a ∧ h3 = h2) := am_meth okJ3_checkIndex_8e157 (Nat.le_of_ble_eq_true rfl) rfl (sxJ3_checkIndex_8e157 l0 l1 l2 h) e
theorem dJ0_checkIndex_df160_0 : am_at cJ0_checkIndex_df160 0 (.iload_n 0) 1 1 := by decide +kernel
theorem dJ0_checkIndex_df160_1 : am_at cJ0_checkIndex_df160 1 (.iload_n 1) 1 2 := by decide +kernel
theorem dJ0_checkIndex_df160_2 : am_at cJ0_checkIndex_df160 2 (.getstatic 1053) 3 5 := by decide +kernel
theorem dJ0_checkIndex_df160_5 : am_at cJ0_checkIndex_df160 5 (.invokestatic 1059) 3 8 := by decide +kernel
theorem dJ0_checkIndex_df160_8 : am_at cJ0_checkIndex_df160 8 (.pop) 1 9 := by decide +kernel
theorem dJ0_checkIndex_df160_9 : am_at cJ0_checkIndex_df160 9 (.return_) 1 10 := by decide +kernel
def fxJ0_checkIndex_df160 (l0 : Int32) (l1 : Int32) (h : am_H) : Option (Unit × am_H) := am_bd (fxJ3_checkIndex_8e157 l0 l1 20 h) (fun r1 h2 => some ((), h2))
set_option maxRecDepth 100000 in
theorem sxJ0_checkIndex_df160 {xs : List Int32} (l0 : Int32) (l1 : Int32) (h : am_H) : am_Sm xs am_cu mJ0_checkIndex_df160 1 0 0 0 [some (am_I l0), some (am_I l1)] [] h (fxJ0_checkIndex_df160 l0 l1 h) := by
  unfold fxJ0_checkIndex_df160
  refine am_iload_n dJ0_checkIndex_df160_0 rfl ?_
  refine am_iload_n dJ0_checkIndex_df160_1 rfl ?_
  refine am_gsForm dJ0_checkIndex_df160_2 wd698 ?_
  refine am_callS (cvj := am_ci) (mtj := mJ3_checkIndex_8e157) (dj := 0) (nj := 3) (rcj := 0) (rsj := 0) (rc' := 0) (rs' := 0) (st' := fun a9 => (am_I a9 :: [])) [am_I l0, am_I l1, am_K 20] [] dJ0_checkIndex_df160_5 okJ3_checkIndex_8e157 lk_RJ0_1059 (fun zA zH zE => txJ3_checkIndex_8e157 l0 l1 20 h zA zH zE) rfl (fun _ => rfl) (by decide) rfl (Nat.le_of_ble_eq_true rfl) (by decide) (by decide) (fun r1 h2 => ?_)
  refine am_pop dJ0_checkIndex_df160_8 ?_
  exact am_vret dJ0_checkIndex_df160_9 rfl rfl
theorem txJ0_checkIndex_df160 {xs : List Int32} (l0 : Int32) (l1 : Int32) (h : am_H) (a : Unit) (h2 : am_H) (e : fxJ0_checkIndex_df160 l0 l1 h = some (a, h2)) : am_Ct xs mJ0_checkIndex_df160 1 0 0 [am_I l0, am_I l1] h (fun v h3 => v = am_cu a ∧ h3 = h2) := am_meth okJ0_checkIndex_df160 (Nat.le_of_ble_eq_true rfl) rfl (sxJ0_checkIndex_df160 l0 l1 h) e
theorem dJ1_charAt_3b067_0 : am_at cJ1_charAt_3b067 0 (.iload_n 1) 1 1 := by decide +kernel
theorem dJ1_charAt_3b067_1 : am_at cJ1_charAt_3b067 1 (.aload_n 0) 1 2 := by decide +kernel
theorem dJ1_charAt_3b067_2 : am_at cJ1_charAt_3b067 2 (.arraylength) 1 3 := by decide +kernel
theorem dJ1_charAt_3b067_3 : am_at cJ1_charAt_3b067 3 (.invokestatic 9) 3 6 := by decide +kernel
theorem dJ1_charAt_3b067_6 : am_at cJ1_charAt_3b067 6 (.aload_n 0) 1 7 := by decide +kernel
theorem dJ1_charAt_3b067_7 : am_at cJ1_charAt_3b067 7 (.iload_n 1) 1 8 := by decide +kernel
theorem dJ1_charAt_3b067_8 : am_at cJ1_charAt_3b067 8 (.baload) 1 9 := by decide +kernel
theorem dJ1_charAt_3b067_9 : am_at cJ1_charAt_3b067 9 (.sipush 255) 3 12 := by decide +kernel
theorem dJ1_charAt_3b067_12 : am_at cJ1_charAt_3b067 12 (.iand) 1 13 := by decide +kernel
theorem dJ1_charAt_3b067_13 : am_at cJ1_charAt_3b067 13 (.i2c) 1 14 := by decide +kernel
theorem dJ1_charAt_3b067_14 : am_at cJ1_charAt_3b067 14 (.ireturn) 1 15 := by decide +kernel
def fxJ1_charAt_3b067 (l0 : Nat) (l1 : Int32) (h : am_H) : Option (Int32 × am_H) := am_bd (fxJ0_checkIndex_df160 l1 (Int32.ofNat (am_kb9 l0).length) h) (fun _ h1 => am_gd (am_in l1 (am_kb9 l0).length) (am_gd (am_cz (((((am_kb9 l0).getD l1.toNatClampNeg 0) &&& (255 : Int32)).toUInt32 % 65536).toInt32)) (some ((((((am_kb9 l0).getD l1.toNatClampNeg 0) &&& (255 : Int32)).toUInt32 % 65536).toInt32), h1))))
set_option maxRecDepth 100000 in
theorem sxJ1_charAt_3b067 {xs : List Int32} (l0 : Nat) (l1 : Int32) (h : am_H) (hbl0 : 12 ≤ l0 ∧ l0 < 18) : am_Sm xs am_ci mJ1_charAt_3b067 2 0 0 0 [some (am_K l0), some (am_I l1)] [] h (fxJ1_charAt_3b067 l0 l1 h) := by
  unfold fxJ1_charAt_3b067
  refine am_iload_n dJ1_charAt_3b067_0 rfl ?_
  refine am_aload_n dJ1_charAt_3b067_1 rfl ?_
  refine am_klen9 dJ1_charAt_3b067_2 hbl0 ?_
  refine am_callS (cvj := am_cu) (mtj := mJ0_checkIndex_df160) (dj := 1) (nj := 2) (rcj := 0) (rsj := 0) (rc' := 0) (rs' := 0) (st' := fun _ => []) [am_I l1, am_I (Int32.ofNat (am_kb9 l0).length)] [] dJ1_charAt_3b067_3 okJ0_checkIndex_df160 lk_RJ1_9 (fun zA zH zE => txJ0_checkIndex_df160 l1 (Int32.ofNat (am_kb9 l0).length) h zA zH zE) rfl (fun _ => rfl) (by decide) rfl (Nat.le_of_ble_eq_true rfl) (by decide) (by decide) (fun _ h1 => ?_)
  refine am_aload_n dJ1_charAt_3b067_6 rfl ?_
  refine am_iload_n dJ1_charAt_3b067_7 rfl ?_
  refine am_kalb9 dJ1_charAt_3b067_8 hbl0.1 hbl0.2 ?_
  refine am_sipush (v := 255) dJ1_charAt_3b067_9 (by decide) ?_
  refine am_iand dJ1_charAt_3b067_12 ?_
  refine am_i2c dJ1_charAt_3b067_13 ?_
  exact am_cret dJ1_charAt_3b067_14 rfl rfl
theorem txJ1_charAt_3b067 {xs : List Int32} (l0 : Nat) (l1 : Int32) (h : am_H) (hbl0 : 12 ≤ l0 ∧ l0 < 18) (a : Int32) (h2 : am_H) (e : fxJ1_charAt_3b067 l0 l1 h = some (a, h2)) : am_Ct xs mJ1_charAt_3b067 2 0 0 [am_K l0, am_I l1] h (fun v h3 => v = am_ci a ∧ h3 = h2) := am_meth okJ1_charAt_3b067 (Nat.le_of_ble_eq_true rfl) rfl (sxJ1_charAt_3b067 l0 l1 h hbl0) e
theorem dJ0_charAt_5068e_0 : am_at cJ0_charAt_5068e 0 (.aload_n 0) 1 1 := by decide +kernel
theorem dJ0_charAt_5068e_1 : am_at cJ0_charAt_5068e 1 (.invokevirtual 492) 3 4 := by decide +kernel
theorem dJ0_charAt_5068e_4 : am_at cJ0_charAt_5068e 4 (.ifCond .eq 12) 3 7 := by decide +kernel
theorem dJ0_charAt_5068e_7 : am_at cJ0_charAt_5068e 7 (.aload_n 0) 1 8 := by decide +kernel
theorem dJ0_charAt_5068e_8 : am_at cJ0_charAt_5068e 8 (.getfield 9) 3 11 := by decide +kernel
theorem dJ0_charAt_5068e_11 : am_at cJ0_charAt_5068e 11 (.iload_n 1) 1 12 := by decide +kernel
theorem dJ0_charAt_5068e_12 : am_at cJ0_charAt_5068e 12 (.invokestatic 495) 3 15 := by decide +kernel
theorem dJ0_charAt_5068e_15 : am_at cJ0_charAt_5068e 15 (.ireturn) 1 16 := by decide +kernel
theorem dJ0_charAt_5068e_16 : am_at cJ0_charAt_5068e 16 (.aload_n 0) 1 17 := by decide +kernel
theorem dJ0_charAt_5068e_17 : am_at cJ0_charAt_5068e 17 (.getfield 9) 3 20 := by decide +kernel
theorem dJ0_charAt_5068e_20 : am_at cJ0_charAt_5068e 20 (.iload_n 1) 1 21 := by decide +kernel
theorem dJ0_charAt_5068e_21 : am_at cJ0_charAt_5068e 21 (.invokestatic 498) 3 24 := by decide +kernel
def fxJ0_charAt_5068e (l0 : Nat) (l1 : Int32) (h : am_H) : Option (Int32 × am_H) := am_bd (fxJ0_isLatin1_aae02 l0 h) (fun r1 h2 => if r1 = 0 then (none) else (am_bd (fxJ1_charAt_3b067 (10 + l0) l1 h2) (fun r3 h4 => am_gd (am_cz r3) (some (r3, h4)))))
set_option maxRecDepth 100000 in
theorem sxJ0_charAt_5068e {xs : List Int32} (l0 : Nat) (l1 : Int32) (h : am_H) (hbl0 : 2 ≤ l0 ∧ l0 < 8) : am_Sm xs am_ci mJ0_charAt_5068e 3 0 0 0 [some (am_K l0), some (am_I l1)] [] h (fxJ0_charAt_5068e l0 l1 h) := by
  unfold fxJ0_charAt_5068e
  refine am_aload_n dJ0_charAt_5068e_0 rfl ?_
  refine am_callK (cvj := am_ci) (mtj := mJ0_isLatin1_aae02) (dj := 0) (nj := 0) (rcj := 0) (rsj := 0) (rc' := 0) (rs' := 0) (st' := fun a9 => (am_I a9 :: [])) hbl0.1 hbl0.2 rfl [] [] dJ0_charAt_5068e_1 okJ0_isLatin1_aae02 lk_RJ0_492 (fun zA zH zE => txJ0_isLatin1_aae02 l0 h hbl0 zA zH zE) rfl (fun _ => rfl) (by decide) rfl (Nat.le_of_ble_eq_true rfl) (by decide) (by decide) (fun r1 h2 => ?_)
  refine am_if_eq (tgt := 16) dJ0_charAt_5068e_4 (by decide) (fun c5 => ?_) (fun c5 => ?_)
  · refine am_aload_n dJ0_charAt_5068e_16 rfl ?_
    refine am_kgetV dJ0_charAt_5068e_17 hbl0.1 hbl0.2 wd1425 ?_
    refine am_iload_n dJ0_charAt_5068e_20 rfl ?_
    exact am_none
  refine am_aload_n dJ0_charAt_5068e_7 rfl ?_
  refine am_kgetV dJ0_charAt_5068e_8 hbl0.1 hbl0.2 wd1425 ?_
  refine am_iload_n dJ0_charAt_5068e_11 rfl ?_
  refine am_callS (cvj := am_ci) (mtj := mJ1_charAt_3b067) (dj := 2) (nj := 2) (rcj := 0) (rsj := 0) (rc' := 0) (rs' := 0) (st' := fun a9 => (am_I a9 :: [])) [am_K (10 + l0), am_I l1] [] dJ0_charAt_5068e_12 okJ1_charAt_3b067 lk_RJ0_495 (fun zA zH zE => txJ1_charAt_3b067 (10 + l0) l1 h2 ⟨by have := hbl0; omega, by have := hbl0; omega⟩ zA zH zE) rfl (fun _ => rfl) (by decide) rfl (Nat.le_of_ble_eq_true rfl) (by decide) (by decide) (fun r3 h4 => ?_)
  exact am_cret dJ0_charAt_5068e_15 rfl rfl
theorem txJ0_charAt_5068e {xs : List Int32} (l0 : Nat) (l1 : Int32) (h : am_H) (hbl0 : 2 ≤ l0 ∧ l0 < 8) (a : Int32) (h2 : am_H) (e : fxJ0_charAt_5068e l0 l1 h = some (a, h2)) : am_Ct xs mJ0_charAt_5068e 3 0 0 [am_K l0, am_I l1] h (fun v h3 => v = am_ci a ∧ h3 = h2) := am_meth okJ0_charAt_5068e (Nat.le_of_ble_eq_true rfl) rfl (sxJ0_charAt_5068e l0 l1 h hbl0) e
theorem dJ1_canEncode_9a6ad_0 : am_at cJ1_canEncode_9a6ad 0 (.iload_n 0) 1 1 := by decide +kernel
theorem dJ1_canEncode_9a6ad_1 : am_at cJ1_canEncode_9a6ad 1 (.ifCond .lt 14) 3 4 := by decide +kernel
theorem dJ1_canEncode_9a6ad_4 : am_at cJ1_canEncode_9a6ad 4 (.iload_n 0) 1 5 := by decide +kernel
theorem dJ1_canEncode_9a6ad_5 : am_at cJ1_canEncode_9a6ad 5 (.sipush 255) 3 8 := by decide +kernel
theorem dJ1_canEncode_9a6ad_8 : am_at cJ1_canEncode_9a6ad 8 (.if_icmp .gt 7) 3 11 := by decide +kernel
theorem dJ1_canEncode_9a6ad_11 : am_at cJ1_canEncode_9a6ad 11 (.iconst 1) 1 12 := by decide +kernel
theorem dJ1_canEncode_9a6ad_12 : am_at cJ1_canEncode_9a6ad 12 (.goto 4) 3 15 := by decide +kernel
theorem dJ1_canEncode_9a6ad_15 : am_at cJ1_canEncode_9a6ad 15 (.iconst 0) 1 16 := by decide +kernel
theorem dJ1_canEncode_9a6ad_16 : am_at cJ1_canEncode_9a6ad 16 (.ireturn) 1 17 := by decide +kernel
def fxJ1_canEncode_9a6ad (l0 : Int32) (h : am_H) : Option (Int32 × am_H) := if l0 < 0 then (am_gd (am_bz (0 : Int32)) (some ((0 : Int32), h))) else (if (255 : Int32) < l0 then (am_gd (am_bz (0 : Int32)) (some ((0 : Int32), h))) else (am_gd (am_bz (1 : Int32)) (some ((1 : Int32), h))))
set_option maxRecDepth 100000 in
theorem sxJ1_canEncode_9a6ad {xs : List Int32} (l0 : Int32) (h : am_H) : am_Sm xs am_ci mJ1_canEncode_9a6ad 0 0 0 0 [some (am_I l0)] [] h (fxJ1_canEncode_9a6ad l0 h) := by
  unfold fxJ1_canEncode_9a6ad
  refine am_iload_n dJ1_canEncode_9a6ad_0 rfl ?_
  refine am_if_lt (tgt := 15) dJ1_canEncode_9a6ad_1 (by decide) (fun c2 => ?_) (fun c2 => ?_)
  · refine am_iconst (v := 0) dJ1_canEncode_9a6ad_15 (by decide) ?_
    exact am_zret dJ1_canEncode_9a6ad_16 rfl rfl
  refine am_iload_n dJ1_canEncode_9a6ad_4 rfl ?_
  refine am_sipush (v := 255) dJ1_canEncode_9a6ad_5 (by decide) ?_
  refine am_icmp_gt (tgt := 15) dJ1_canEncode_9a6ad_8 (by decide) (fun c1 => ?_) (fun c1 => ?_)
  · refine am_iconst (v := 0) dJ1_canEncode_9a6ad_15 (by decide) ?_
    exact am_zret dJ1_canEncode_9a6ad_16 rfl rfl
  refine am_iconst (v := 1) dJ1_canEncode_9a6ad_11 (by decide) ?_
  refine am_goto (tgt := 16) dJ1_canEncode_9a6ad_12 (by decide) ?_
  exact am_zret dJ1_canEncode_9a6ad_16 rfl rfl
theorem txJ1_canEncode_9a6ad {xs : List Int32} (l0 : Int32) (h : am_H) (a : Int32) (h2 : am_H) (e : fxJ1_canEncode_9a6ad l0 h = some (a, h2)) : am_Ct xs mJ1_canEncode_9a6ad 0 0 0 [am_I l0] h (fun v h3 => v = am_ci a ∧ h3 = h2) := am_meth okJ1_canEncode_9a6ad (Nat.le_of_ble_eq_true rfl) rfl (sxJ1_canEncode_9a6ad l0 h) e
theorem dJ1_indexOfChar_4cfef_0 : am_at cJ1_indexOfChar_4cfef 0 (.iload_n 1) 1 1 := by decide +kernel
theorem dJ1_indexOfChar_4cfef_1 : am_at cJ1_indexOfChar_4cfef 1 (.i2b) 1 2 := by decide +kernel
theorem dJ1_indexOfChar_4cfef_2 : am_at cJ1_indexOfChar_4cfef 2 (.istore 4) 2 4 := by decide +kernel
theorem dJ1_indexOfChar_4cfef_4 : am_at cJ1_indexOfChar_4cfef 4 (.iload_n 2) 1 5 := by decide +kernel
theorem dJ1_indexOfChar_4cfef_5 : am_at cJ1_indexOfChar_4cfef 5 (.istore 5) 2 7 := by decide +kernel
theorem dJ1_indexOfChar_4cfef_7 : am_at cJ1_indexOfChar_4cfef 7 (.iload 5) 2 9 := by decide +kernel
theorem dJ1_indexOfChar_4cfef_9 : am_at cJ1_indexOfChar_4cfef 9 (.iload_n 3) 1 10 := by decide +kernel
theorem dJ1_indexOfChar_4cfef_10 : am_at cJ1_indexOfChar_4cfef 10 (.if_icmp .ge 21) 3 13 := by decide +kernel
theorem dJ1_indexOfChar_4cfef_13 : am_at cJ1_indexOfChar_4cfef 13 (.aload_n 0) 1 14 := by decide +kernel
theorem dJ1_indexOfChar_4cfef_14 : am_at cJ1_indexOfChar_4cfef 14 (.iload 5) 2 16 := by decide +kernel
theorem dJ1_indexOfChar_4cfef_16 : am_at cJ1_indexOfChar_4cfef 16 (.baload) 1 17 := by decide +kernel
theorem dJ1_indexOfChar_4cfef_17 : am_at cJ1_indexOfChar_4cfef 17 (.iload 4) 2 19 := by decide +kernel
theorem dJ1_indexOfChar_4cfef_19 : am_at cJ1_indexOfChar_4cfef 19 (.if_icmp .ne 6) 3 22 := by decide +kernel
theorem dJ1_indexOfChar_4cfef_22 : am_at cJ1_indexOfChar_4cfef 22 (.iload 5) 2 24 := by decide +kernel
theorem dJ1_indexOfChar_4cfef_24 : am_at cJ1_indexOfChar_4cfef 24 (.ireturn) 1 25 := by decide +kernel
theorem dJ1_indexOfChar_4cfef_25 : am_at cJ1_indexOfChar_4cfef 25 (.iinc 5 1) 3 28 := by decide +kernel
theorem dJ1_indexOfChar_4cfef_28 : am_at cJ1_indexOfChar_4cfef 28 (.goto (-21)) 3 31 := by decide +kernel
theorem dJ1_indexOfChar_4cfef_31 : am_at cJ1_indexOfChar_4cfef 31 (.iconst (-1)) 1 32 := by decide +kernel
theorem dJ1_indexOfChar_4cfef_32 : am_at cJ1_indexOfChar_4cfef 32 (.ireturn) 1 33 := by decide +kernel
def fxJ1_indexOfChar_4cfef_b7 : Nat → Nat → Int32 → Int32 → Int32 → am_H → Option (Int32 × am_H)
  | 0, _, _, _, _, _ => none
  | n + 1, l0, l3, l4, l5, h => if l3 ≤ l5 then (some ((-1 : Int32), h)) else (am_gd (am_in l5 (am_kb9 l0).length) (if ((am_kb9 l0).getD l5.toNatClampNeg 0) = l4 then (some (l5, h)) else (am_lt (l5 + 1) (fun x3 => fxJ1_indexOfChar_4cfef_b7 n l0 l3 l4 x3 h))))
set_option maxRecDepth 100000 in
theorem sxJ1_indexOfChar_4cfef_b7 {xs : List Int32} : ∀ (n : Nat) (l0 : Nat) (l3 : Int32) (l4 : Int32) (l5 : Int32) (h : am_H) (hbl0 : 12 ≤ l0 ∧ l0 < 18), am_Sm xs am_ci mJ1_indexOfChar_4cfef 0 0 0 7 [some (am_K l0), none, none, some (am_I l3), some (am_I l4), some (am_I l5)] [] h (fxJ1_indexOfChar_4cfef_b7 n l0 l3 l4 l5 h) := by
  intro n
  induction n with
  | zero => intros; exact am_none
  | succ n ih =>
    intro l0 l3 l4 l5 h hbl0
    rw [fxJ1_indexOfChar_4cfef_b7]
    refine am_iload dJ1_indexOfChar_4cfef_7 rfl ?_
    refine am_iload_n dJ1_indexOfChar_4cfef_9 rfl ?_
    refine am_icmp_ge (tgt := 31) dJ1_indexOfChar_4cfef_10 (by decide) (fun c5 => ?_) (fun c5 => ?_)
    · refine am_iconst (v := (-1)) dJ1_indexOfChar_4cfef_31 (by decide) ?_
      exact am_iret dJ1_indexOfChar_4cfef_32 rfl rfl
    refine am_aload_n dJ1_indexOfChar_4cfef_13 rfl ?_
    refine am_iload dJ1_indexOfChar_4cfef_14 rfl ?_
    refine am_kalb9 dJ1_indexOfChar_4cfef_16 hbl0.1 hbl0.2 ?_
    refine am_iload dJ1_indexOfChar_4cfef_17 rfl ?_
    refine am_icmp_ne (tgt := 25) dJ1_indexOfChar_4cfef_19 (by decide) (fun c4 => ?_) (fun c4 => ?_)
    · refine am_iinc (v := 1) (LL := fun y9 => [some (am_K l0), none, none, some (am_I l3), some (am_I l4), some (am_I y9)]) dJ1_indexOfChar_4cfef_25 (by decide) rfl (by decide) (fun _ => rfl) (fun x3 => ?_)
      refine am_goto (tgt := 7) dJ1_indexOfChar_4cfef_28 (by decide) ?_
      exact am_weak (ih l0 l3 l4 x3 h hbl0) ⟨rfl, ⟨rfl, ⟨rfl, ⟨rfl, trivial⟩⟩⟩⟩ (Nat.le_refl _) (Nat.le_refl _)
    refine am_iload dJ1_indexOfChar_4cfef_22 rfl ?_
    exact am_iret dJ1_indexOfChar_4cfef_24 rfl rfl
def fxJ1_indexOfChar_4cfef (l0 : Nat) (l1 : Int32) (l2 : Int32) (l3 : Int32) (h : am_H) : Option (Int32 × am_H) := am_lt (l1.toInt8.toInt32) (fun x1 => am_lt l2 (fun x2 => fxJ1_indexOfChar_4cfef_b7 am_F l0 l3 x1 x2 h))
set_option maxRecDepth 100000 in
theorem sxJ1_indexOfChar_4cfef {xs : List Int32} (l0 : Nat) (l1 : Int32) (l2 : Int32) (l3 : Int32) (h : am_H) (hbl0 : 12 ≤ l0 ∧ l0 < 18) : am_Sm xs am_ci mJ1_indexOfChar_4cfef 0 0 0 0 [some (am_K l0), some (am_I l1), some (am_I l2), some (am_I l3), none, none] [] h (fxJ1_indexOfChar_4cfef l0 l1 l2 l3 h) := by
  unfold fxJ1_indexOfChar_4cfef
  refine am_iload_n dJ1_indexOfChar_4cfef_0 rfl ?_
  refine am_i2b dJ1_indexOfChar_4cfef_1 ?_
  refine am_istore (LL := fun y9 => [some (am_K l0), some (am_I l1), some (am_I l2), some (am_I l3), some (am_I y9), none]) dJ1_indexOfChar_4cfef_2 (by decide) (fun _ => rfl) (fun x1 => ?_)
  refine am_iload_n dJ1_indexOfChar_4cfef_4 rfl ?_
  refine am_istore (LL := fun y9 => [some (am_K l0), some (am_I l1), some (am_I l2), some (am_I l3), some (am_I x1), some (am_I y9)]) dJ1_indexOfChar_4cfef_5 (by decide) (fun _ => rfl) (fun x2 => ?_)
  exact am_weak (sxJ1_indexOfChar_4cfef_b7 am_F l0 l3 x1 x2 h hbl0) ⟨rfl, ⟨rfl, ⟨rfl, ⟨rfl, trivial⟩⟩⟩⟩ (Nat.le_refl _) (Nat.le_refl _)
theorem txJ1_indexOfChar_4cfef {xs : List Int32} (l0 : Nat) (l1 : Int32) (l2 : Int32) (l3 : Int32) (h : am_H) (hbl0 : 12 ≤ l0 ∧ l0 < 18) (a : Int32) (h2 : am_H) (e : fxJ1_indexOfChar_4cfef l0 l1 l2 l3 h = some (a, h2)) : am_Ct xs mJ1_indexOfChar_4cfef 0 0 0 [am_K l0, am_I l1, am_I l2, am_I l3] h (fun v h3 => v = am_ci a ∧ h3 = h2) := am_meth okJ1_indexOfChar_4cfef (Nat.le_of_ble_eq_true rfl) rfl (sxJ1_indexOfChar_4cfef l0 l1 l2 l3 h hbl0) e
theorem dJ1_indexOf_4cfef_0 : am_at cJ1_indexOf_4cfef 0 (.iload_n 1) 1 1 := by decide +kernel
theorem dJ1_indexOf_4cfef_1 : am_at cJ1_indexOf_4cfef 1 (.invokestatic 88) 3 4 := by decide +kernel
theorem dJ1_indexOf_4cfef_4 : am_at cJ1_indexOf_4cfef 4 (.ifCond .ne 5) 3 7 := by decide +kernel
theorem dJ1_indexOf_4cfef_7 : am_at cJ1_indexOf_4cfef 7 (.iconst (-1)) 1 8 := by decide +kernel
theorem dJ1_indexOf_4cfef_8 : am_at cJ1_indexOf_4cfef 8 (.ireturn) 1 9 := by decide +kernel
theorem dJ1_indexOf_4cfef_9 : am_at cJ1_indexOf_4cfef 9 (.iload_n 2) 1 10 := by decide +kernel
theorem dJ1_indexOf_4cfef_10 : am_at cJ1_indexOf_4cfef 10 (.iconst 0) 1 11 := by decide +kernel
theorem dJ1_indexOf_4cfef_11 : am_at cJ1_indexOf_4cfef 11 (.invokestatic 92) 3 14 := by decide +kernel
theorem dJ1_indexOf_4cfef_14 : am_at cJ1_indexOf_4cfef 14 (.istore_n 2) 1 15 := by decide +kernel
theorem dJ1_indexOf_4cfef_15 : am_at cJ1_indexOf_4cfef 15 (.iload_n 3) 1 16 := by decide +kernel
theorem dJ1_indexOf_4cfef_16 : am_at cJ1_indexOf_4cfef 16 (.aload_n 0) 1 17 := by decide +kernel
theorem dJ1_indexOf_4cfef_17 : am_at cJ1_indexOf_4cfef 17 (.arraylength) 1 18 := by decide +kernel
theorem dJ1_indexOf_4cfef_18 : am_at cJ1_indexOf_4cfef 18 (.invokestatic 38) 3 21 := by decide +kernel
theorem dJ1_indexOf_4cfef_21 : am_at cJ1_indexOf_4cfef 21 (.istore_n 3) 1 22 := by decide +kernel
theorem dJ1_indexOf_4cfef_22 : am_at cJ1_indexOf_4cfef 22 (.iload_n 2) 1 23 := by decide +kernel
theorem dJ1_indexOf_4cfef_23 : am_at cJ1_indexOf_4cfef 23 (.iload_n 3) 1 24 := by decide +kernel
theorem dJ1_indexOf_4cfef_24 : am_at cJ1_indexOf_4cfef 24 (.if_icmp .lt 5) 3 27 := by decide +kernel
theorem dJ1_indexOf_4cfef_27 : am_at cJ1_indexOf_4cfef 27 (.iconst (-1)) 1 28 := by decide +kernel
theorem dJ1_indexOf_4cfef_28 : am_at cJ1_indexOf_4cfef 28 (.ireturn) 1 29 := by decide +kernel
theorem dJ1_indexOf_4cfef_29 : am_at cJ1_indexOf_4cfef 29 (.aload_n 0) 1 30 := by decide +kernel
theorem dJ1_indexOf_4cfef_30 : am_at cJ1_indexOf_4cfef 30 (.iload_n 1) 1 31 := by decide +kernel
theorem dJ1_indexOf_4cfef_31 : am_at cJ1_indexOf_4cfef 31 (.iload_n 2) 1 32 := by decide +kernel
theorem dJ1_indexOf_4cfef_32 : am_at cJ1_indexOf_4cfef 32 (.iload_n 3) 1 33 := by decide +kernel
theorem dJ1_indexOf_4cfef_33 : am_at cJ1_indexOf_4cfef 33 (.invokestatic 95) 3 36 := by decide +kernel
theorem dJ1_indexOf_4cfef_36 : am_at cJ1_indexOf_4cfef 36 (.ireturn) 1 37 := by decide +kernel
def fxJ1_indexOf_4cfef (l0 : Nat) (l1 : Int32) (l2 : Int32) (l3 : Int32) (h : am_H) : Option (Int32 × am_H) := am_bd (fxJ1_canEncode_9a6ad l1 h) (fun r1 h2 => if r1 = 0 then (some ((-1 : Int32), h2)) else (am_lt (am_mmax l2 (0 : Int32)) (fun x3 => am_lt (am_mmin l3 (Int32.ofNat (am_kb9 l0).length)) (fun x4 => if x3 < x4 then (am_bd (fxJ1_indexOfChar_4cfef l0 l1 x3 x4 h2) (fun r5 h6 => some (r5, h6))) else (some ((-1 : Int32), h2))))))
set_option maxRecDepth 100000 in
theorem sxJ1_indexOf_4cfef {xs : List Int32} (l0 : Nat) (l1 : Int32) (l2 : Int32) (l3 : Int32) (h : am_H) (hbl0 : 12 ≤ l0 ∧ l0 < 18) : am_Sm xs am_ci mJ1_indexOf_4cfef 1 0 0 0 [some (am_K l0), some (am_I l1), some (am_I l2), some (am_I l3)] [] h (fxJ1_indexOf_4cfef l0 l1 l2 l3 h) := by
  unfold fxJ1_indexOf_4cfef
  refine am_iload_n dJ1_indexOf_4cfef_0 rfl ?_
  refine am_callS (cvj := am_ci) (mtj := mJ1_canEncode_9a6ad) (dj := 0) (nj := 1) (rcj := 0) (rsj := 0) (rc' := 0) (rs' := 0) (st' := fun a9 => (am_I a9 :: [])) [am_I l1] [] dJ1_indexOf_4cfef_1 okJ1_canEncode_9a6ad lk_RJ1_88 (fun zA zH zE => txJ1_canEncode_9a6ad l1 h zA zH zE) rfl (fun _ => rfl) (by decide) rfl (Nat.le_of_ble_eq_true rfl) (by decide) (by decide) (fun r1 h2 => ?_)
  refine am_if_ne (tgt := 9) dJ1_indexOf_4cfef_4 (by decide) (fun c8 => ?_) (fun c8 => ?_)
  · refine am_iload_n dJ1_indexOf_4cfef_9 rfl ?_
    refine am_iconst (v := 0) dJ1_indexOf_4cfef_10 (by decide) ?_
    refine am_mmax9 dJ1_indexOf_4cfef_11 wd773 wd404 wd12 wd405 (by decide) (Nat.le_of_ble_eq_true rfl) ?_
    refine am_istore_n (LL := fun y9 => [some (am_K l0), some (am_I l1), some (am_I y9), some (am_I l3)]) dJ1_indexOf_4cfef_14 (by decide) (fun _ => rfl) (fun x3 => ?_)
    refine am_iload_n dJ1_indexOf_4cfef_15 rfl ?_
    refine am_aload_n dJ1_indexOf_4cfef_16 rfl ?_
    refine am_klen9 dJ1_indexOf_4cfef_17 hbl0 ?_
    refine am_mmin9 dJ1_indexOf_4cfef_18 wd774 wd407 wd12 wd408 (by decide) (Nat.le_of_ble_eq_true rfl) ?_
    refine am_istore_n (LL := fun y9 => [some (am_K l0), some (am_I l1), some (am_I x3), some (am_I y9)]) dJ1_indexOf_4cfef_21 (by decide) (fun _ => rfl) (fun x4 => ?_)
    refine am_iload_n dJ1_indexOf_4cfef_22 rfl ?_
    refine am_iload_n dJ1_indexOf_4cfef_23 rfl ?_
    refine am_icmp_lt (tgt := 29) dJ1_indexOf_4cfef_24 (by decide) (fun c7 => ?_) (fun c7 => ?_)
    · refine am_aload_n dJ1_indexOf_4cfef_29 rfl ?_
      refine am_iload_n dJ1_indexOf_4cfef_30 rfl ?_
      refine am_iload_n dJ1_indexOf_4cfef_31 rfl ?_
      refine am_iload_n dJ1_indexOf_4cfef_32 rfl ?_
      refine am_callS (cvj := am_ci) (mtj := mJ1_indexOfChar_4cfef) (dj := 0) (nj := 4) (rcj := 0) (rsj := 0) (rc' := 0) (rs' := 0) (st' := fun a9 => (am_I a9 :: [])) [am_K l0, am_I l1, am_I x3, am_I x4] [] dJ1_indexOf_4cfef_33 okJ1_indexOfChar_4cfef lk_RJ1_95 (fun zA zH zE => txJ1_indexOfChar_4cfef l0 l1 x3 x4 h2 hbl0 zA zH zE) rfl (fun _ => rfl) (by decide) rfl (Nat.le_of_ble_eq_true rfl) (by decide) (by decide) (fun r5 h6 => ?_)
      exact am_iret dJ1_indexOf_4cfef_36 rfl rfl
    refine am_iconst (v := (-1)) dJ1_indexOf_4cfef_27 (by decide) ?_
    exact am_iret dJ1_indexOf_4cfef_28 rfl rfl
  refine am_iconst (v := (-1)) dJ1_indexOf_4cfef_7 (by decide) ?_
  exact am_iret dJ1_indexOf_4cfef_8 rfl rfl
theorem txJ1_indexOf_4cfef {xs : List Int32} (l0 : Nat) (l1 : Int32) (l2 : Int32) (l3 : Int32) (h : am_H) (hbl0 : 12 ≤ l0 ∧ l0 < 18) (a : Int32) (h2 : am_H) (e : fxJ1_indexOf_4cfef l0 l1 l2 l3 h = some (a, h2)) : am_Ct xs mJ1_indexOf_4cfef 1 0 0 [am_K l0, am_I l1, am_I l2, am_I l3] h (fun v h3 => v = am_ci a ∧ h3 = h2) := am_meth okJ1_indexOf_4cfef (Nat.le_of_ble_eq_true rfl) rfl (sxJ1_indexOf_4cfef l0 l1 l2 l3 h hbl0) e
theorem dJ0_indexOf_7cf53_0 : am_at cJ0_indexOf_7cf53 0 (.aload_n 0) 1 1 := by decide +kernel
theorem dJ0_indexOf_7cf53_1 : am_at cJ0_indexOf_7cf53 1 (.invokevirtual 492) 3 4 := by decide +kernel
theorem dJ0_indexOf_7cf53_4 : am_at cJ0_indexOf_7cf53 4 (.ifCond .eq 19) 3 7 := by decide +kernel
theorem dJ0_indexOf_7cf53_7 : am_at cJ0_indexOf_7cf53 7 (.aload_n 0) 1 8 := by decide +kernel
theorem dJ0_indexOf_7cf53_8 : am_at cJ0_indexOf_7cf53 8 (.getfield 9) 3 11 := by decide +kernel
theorem dJ0_indexOf_7cf53_11 : am_at cJ0_indexOf_7cf53 11 (.iload_n 1) 1 12 := by decide +kernel
theorem dJ0_indexOf_7cf53_12 : am_at cJ0_indexOf_7cf53 12 (.iload_n 2) 1 13 := by decide +kernel
theorem dJ0_indexOf_7cf53_13 : am_at cJ0_indexOf_7cf53 13 (.aload_n 0) 1 14 := by decide +kernel
theorem dJ0_indexOf_7cf53_14 : am_at cJ0_indexOf_7cf53 14 (.invokevirtual 505) 3 17 := by decide +kernel
theorem dJ0_indexOf_7cf53_17 : am_at cJ0_indexOf_7cf53 17 (.invokestatic 637) 3 20 := by decide +kernel
theorem dJ0_indexOf_7cf53_20 : am_at cJ0_indexOf_7cf53 20 (.goto 16) 3 23 := by decide +kernel
theorem dJ0_indexOf_7cf53_23 : am_at cJ0_indexOf_7cf53 23 (.aload_n 0) 1 24 := by decide +kernel
theorem dJ0_indexOf_7cf53_24 : am_at cJ0_indexOf_7cf53 24 (.getfield 9) 3 27 := by decide +kernel
theorem dJ0_indexOf_7cf53_27 : am_at cJ0_indexOf_7cf53 27 (.iload_n 1) 1 28 := by decide +kernel
theorem dJ0_indexOf_7cf53_28 : am_at cJ0_indexOf_7cf53 28 (.iload_n 2) 1 29 := by decide +kernel
theorem dJ0_indexOf_7cf53_29 : am_at cJ0_indexOf_7cf53 29 (.aload_n 0) 1 30 := by decide +kernel
theorem dJ0_indexOf_7cf53_30 : am_at cJ0_indexOf_7cf53 30 (.invokevirtual 505) 3 33 := by decide +kernel
theorem dJ0_indexOf_7cf53_33 : am_at cJ0_indexOf_7cf53 33 (.invokestatic 640) 3 36 := by decide +kernel
theorem dJ0_indexOf_7cf53_36 : am_at cJ0_indexOf_7cf53 36 (.ireturn) 1 37 := by decide +kernel
def fxJ0_indexOf_7cf53 (l0 : Nat) (l1 : Int32) (l2 : Int32) (h : am_H) : Option (Int32 × am_H) := am_bd (fxJ0_isLatin1_aae02 l0 h) (fun r1 h2 => if r1 = 0 then (am_bd (fxJ0_length_8abf5 l0 h2) (fun r3 h4 => none)) else (am_bd (fxJ0_length_8abf5 l0 h2) (fun r5 h6 => am_bd (fxJ1_indexOf_4cfef (10 + l0) l1 l2 r5 h6) (fun r7 h8 => some (r7, h8)))))
set_option maxRecDepth 100000 in
theorem sxJ0_indexOf_7cf53 {xs : List Int32} (l0 : Nat) (l1 : Int32) (l2 : Int32) (h : am_H) (hbl0 : 2 ≤ l0 ∧ l0 < 8) : am_Sm xs am_ci mJ0_indexOf_7cf53 2 0 0 0 [some (am_K l0), some (am_I l1), some (am_I l2)] [] h (fxJ0_indexOf_7cf53 l0 l1 l2 h) := by
  unfold fxJ0_indexOf_7cf53
  refine am_aload_n dJ0_indexOf_7cf53_0 rfl ?_
  refine am_callK (cvj := am_ci) (mtj := mJ0_isLatin1_aae02) (dj := 0) (nj := 0) (rcj := 0) (rsj := 0) (rc' := 0) (rs' := 0) (st' := fun a9 => (am_I a9 :: [])) hbl0.1 hbl0.2 rfl [] [] dJ0_indexOf_7cf53_1 okJ0_isLatin1_aae02 lk_RJ0_492 (fun zA zH zE => txJ0_isLatin1_aae02 l0 h hbl0 zA zH zE) rfl (fun _ => rfl) (by decide) rfl (Nat.le_of_ble_eq_true rfl) (by decide) (by decide) (fun r1 h2 => ?_)
  refine am_if_eq (tgt := 23) dJ0_indexOf_7cf53_4 (by decide) (fun c9 => ?_) (fun c9 => ?_)
  · refine am_aload_n dJ0_indexOf_7cf53_23 rfl ?_
    refine am_kgetV dJ0_indexOf_7cf53_24 hbl0.1 hbl0.2 wd1425 ?_
    refine am_iload_n dJ0_indexOf_7cf53_27 rfl ?_
    refine am_iload_n dJ0_indexOf_7cf53_28 rfl ?_
    refine am_aload_n dJ0_indexOf_7cf53_29 rfl ?_
    refine am_callK (cvj := am_ci) (mtj := mJ0_length_8abf5) (dj := 1) (nj := 0) (rcj := 0) (rsj := 0) (rc' := 0) (rs' := 0) (st' := fun a9 => (am_I a9 :: [am_I l2, am_I l1, am_K (10 + l0)])) hbl0.1 hbl0.2 rfl [] [am_I l2, am_I l1, am_K (10 + l0)] dJ0_indexOf_7cf53_30 okJ0_length_8abf5 lk_RJ0_505 (fun zA zH zE => txJ0_length_8abf5 l0 h2 hbl0 zA zH zE) rfl (fun _ => rfl) (by decide) rfl (Nat.le_of_ble_eq_true rfl) (by decide) (by decide) (fun r3 h4 => ?_)
    exact am_none
  refine am_aload_n dJ0_indexOf_7cf53_7 rfl ?_
  refine am_kgetV dJ0_indexOf_7cf53_8 hbl0.1 hbl0.2 wd1425 ?_
  refine am_iload_n dJ0_indexOf_7cf53_11 rfl ?_
  refine am_iload_n dJ0_indexOf_7cf53_12 rfl ?_
  refine am_aload_n dJ0_indexOf_7cf53_13 rfl ?_
  refine am_callK (cvj := am_ci) (mtj := mJ0_length_8abf5) (dj := 1) (nj := 0) (rcj := 0) (rsj := 0) (rc' := 0) (rs' := 0) (st' := fun a9 => (am_I a9 :: [am_I l2, am_I l1, am_K (10 + l0)])) hbl0.1 hbl0.2 rfl [] [am_I l2, am_I l1, am_K (10 + l0)] dJ0_indexOf_7cf53_14 okJ0_length_8abf5 lk_RJ0_505 (fun zA zH zE => txJ0_length_8abf5 l0 h2 hbl0 zA zH zE) rfl (fun _ => rfl) (by decide) rfl (Nat.le_of_ble_eq_true rfl) (by decide) (by decide) (fun r5 h6 => ?_)
  refine am_callS (cvj := am_ci) (mtj := mJ1_indexOf_4cfef) (dj := 1) (nj := 4) (rcj := 0) (rsj := 0) (rc' := 0) (rs' := 0) (st' := fun a9 => (am_I a9 :: [])) [am_K (10 + l0), am_I l1, am_I l2, am_I r5] [] dJ0_indexOf_7cf53_17 okJ1_indexOf_4cfef lk_RJ0_637 (fun zA zH zE => txJ1_indexOf_4cfef (10 + l0) l1 l2 r5 h6 ⟨by have := hbl0; omega, by have := hbl0; omega⟩ zA zH zE) rfl (fun _ => rfl) (by decide) rfl (Nat.le_of_ble_eq_true rfl) (by decide) (by decide) (fun r7 h8 => ?_)
  refine am_goto (tgt := 36) dJ0_indexOf_7cf53_20 (by decide) ?_
  exact am_iret dJ0_indexOf_7cf53_36 rfl rfl
theorem txJ0_indexOf_7cf53 {xs : List Int32} (l0 : Nat) (l1 : Int32) (l2 : Int32) (h : am_H) (hbl0 : 2 ≤ l0 ∧ l0 < 8) (a : Int32) (h2 : am_H) (e : fxJ0_indexOf_7cf53 l0 l1 l2 h = some (a, h2)) : am_Ct xs mJ0_indexOf_7cf53 2 0 0 [am_K l0, am_I l1, am_I l2] h (fun v h3 => v = am_ci a ∧ h3 = h2) := am_meth okJ0_indexOf_7cf53 (Nat.le_of_ble_eq_true rfl) rfl (sxJ0_indexOf_7cf53 l0 l1 l2 h hbl0) e
theorem dJ0_indexOf_0f7a4_0 : am_at cJ0_indexOf_0f7a4 0 (.aload_n 0) 1 1 := by decide +kernel
theorem dJ0_indexOf_0f7a4_1 : am_at cJ0_indexOf_0f7a4 1 (.iload_n 1) 1 2 := by decide +kernel
theorem dJ0_indexOf_0f7a4_2 : am_at cJ0_indexOf_0f7a4 2 (.iconst 0) 1 3 := by decide +kernel
theorem dJ0_indexOf_0f7a4_3 : am_at cJ0_indexOf_0f7a4 3 (.invokevirtual 633) 3 6 := by decide +kernel
theorem dJ0_indexOf_0f7a4_6 : am_at cJ0_indexOf_0f7a4 6 (.ireturn) 1 7 := by decide +kernel
def fxJ0_indexOf_0f7a4 (l0 : Nat) (l1 : Int32) (h : am_H) : Option (Int32 × am_H) := am_bd (fxJ0_indexOf_7cf53 l0 l1 (0 : Int32) h) (fun r1 h2 => some (r1, h2))
set_option maxRecDepth 100000 in
theorem sxJ0_indexOf_0f7a4 {xs : List Int32} (l0 : Nat) (l1 : Int32) (h : am_H) (hbl0 : 2 ≤ l0 ∧ l0 < 8) : am_Sm xs am_ci mJ0_indexOf_0f7a4 3 0 0 0 [some (am_K l0), some (am_I l1)] [] h (fxJ0_indexOf_0f7a4 l0 l1 h) := by
  unfold fxJ0_indexOf_0f7a4
  refine am_aload_n dJ0_indexOf_0f7a4_0 rfl ?_
  refine am_iload_n dJ0_indexOf_0f7a4_1 rfl ?_
  refine am_iconst (v := 0) dJ0_indexOf_0f7a4_2 (by decide) ?_
  refine am_callK (cvj := am_ci) (mtj := mJ0_indexOf_7cf53) (dj := 2) (nj := 2) (rcj := 0) (rsj := 0) (rc' := 0) (rs' := 0) (st' := fun a9 => (am_I a9 :: [])) hbl0.1 hbl0.2 rfl [am_I l1, am_I (0 : Int32)] [] dJ0_indexOf_0f7a4_3 okJ0_indexOf_7cf53 lk_RJ0_633 (fun zA zH zE => txJ0_indexOf_7cf53 l0 l1 (0 : Int32) h hbl0 zA zH zE) rfl (fun _ => rfl) (by decide) rfl (Nat.le_of_ble_eq_true rfl) (by decide) (by decide) (fun r1 h2 => ?_)
  exact am_iret dJ0_indexOf_0f7a4_6 rfl rfl
theorem txJ0_indexOf_0f7a4 {xs : List Int32} (l0 : Nat) (l1 : Int32) (h : am_H) (hbl0 : 2 ≤ l0 ∧ l0 < 8) (a : Int32) (h2 : am_H) (e : fxJ0_indexOf_0f7a4 l0 l1 h = some (a, h2)) : am_Ct xs mJ0_indexOf_0f7a4 3 0 0 [am_K l0, am_I l1] h (fun v h3 => v = am_ci a ∧ h3 = h2) := am_meth okJ0_indexOf_0f7a4 (Nat.le_of_ble_eq_true rfl) rfl (sxJ0_indexOf_0f7a4 l0 l1 h hbl0) e
theorem dX9_within_0 : am_at cX9_within 0 (.iload_n 0) 1 1 := by decide +kernel
theorem dX9_within_1 : am_at cX9_within 1 (.iload_n 1) 1 2 := by decide +kernel
theorem dX9_within_2 : am_at cX9_within 2 (.if_icmp .lt 12) 3 5 := by decide +kernel
theorem dX9_within_5 : am_at cX9_within 5 (.iload_n 0) 1 6 := by decide +kernel
theorem dX9_within_6 : am_at cX9_within 6 (.iload_n 2) 1 7 := by decide +kernel
theorem dX9_within_7 : am_at cX9_within 7 (.if_icmp .gt 7) 3 10 := by decide +kernel
theorem dX9_within_10 : am_at cX9_within 10 (.iconst 1) 1 11 := by decide +kernel
theorem dX9_within_11 : am_at cX9_within 11 (.goto 4) 3 14 := by decide +kernel
theorem dX9_within_14 : am_at cX9_within 14 (.iconst 0) 1 15 := by decide +kernel
theorem dX9_within_15 : am_at cX9_within 15 (.ireturn) 1 16 := by decide +kernel
def fxX9_within (l0 : Int32) (l1 : Int32) (l2 : Int32) (h : am_H) : Option (Int32 × am_H) := if l0 < l1 then (am_gd (am_bz (0 : Int32)) (some ((0 : Int32), h))) else (if l2 < l0 then (am_gd (am_bz (0 : Int32)) (some ((0 : Int32), h))) else (am_gd (am_bz (1 : Int32)) (some ((1 : Int32), h))))
set_option maxRecDepth 100000 in
theorem sxX9_within {xs : List Int32} (l0 : Int32) (l1 : Int32) (l2 : Int32) (h : am_H) : am_Sm xs am_ci mX9_within 0 0 0 0 [some (am_I l0), some (am_I l1), some (am_I l2)] [] h (fxX9_within l0 l1 l2 h) := by
  unfold fxX9_within
  refine am_iload_n dX9_within_0 rfl ?_
  refine am_iload_n dX9_within_1 rfl ?_
  refine am_icmp_lt (tgt := 14) dX9_within_2 (by decide) (fun c2 => ?_) (fun c2 => ?_)
  · refine am_iconst (v := 0) dX9_within_14 (by decide) ?_
    exact am_zret dX9_within_15 rfl rfl
  refine am_iload_n dX9_within_5 rfl ?_
  refine am_iload_n dX9_within_6 rfl ?_
  refine am_icmp_gt (tgt := 14) dX9_within_7 (by decide) (fun c1 => ?_) (fun c1 => ?_)
  · refine am_iconst (v := 0) dX9_within_14 (by decide) ?_
    exact am_zret dX9_within_15 rfl rfl
  refine am_iconst (v := 1) dX9_within_10 (by decide) ?_
  refine am_goto (tgt := 15) dX9_within_11 (by decide) ?_
  exact am_zret dX9_within_15 rfl rfl
theorem txX9_within {xs : List Int32} (l0 : Int32) (l1 : Int32) (l2 : Int32) (h : am_H) (a : Int32) (h2 : am_H) (e : fxX9_within l0 l1 l2 h = some (a, h2)) : am_Ct xs mX9_within 0 0 0 [am_I l0, am_I l1, am_I l2] h (fun v h3 => v = am_ci a ∧ h3 = h2) := am_meth okX9_within (Nat.le_of_ble_eq_true rfl) rfl (sxX9_within l0 l1 l2 h) e
theorem dX0_lawOf_0 : am_at cX0_lawOf 0 (.iload_n 1) 1 1 := by decide +kernel
theorem dX0_lawOf_1 : am_at cX0_lawOf 1 (.iconst 0) 1 2 := by decide +kernel
theorem dX0_lawOf_2 : am_at cX0_lawOf 2 (.bipush 13) 2 4 := by decide +kernel
theorem dX0_lawOf_4 : am_at cX0_lawOf 4 (.invokestatic 26) 3 7 := by decide +kernel
theorem dX0_lawOf_7 : am_at cX0_lawOf 7 (.ifCond .eq 12) 3 10 := by decide +kernel
theorem dX0_lawOf_10 : am_at cX0_lawOf 10 (.aload_n 0) 1 11 := by decide +kernel
theorem dX0_lawOf_11 : am_at cX0_lawOf 11 (.getfield 11) 3 14 := by decide +kernel
theorem dX0_lawOf_14 : am_at cX0_lawOf 14 (.iload_n 1) 1 15 := by decide +kernel
theorem dX0_lawOf_15 : am_at cX0_lawOf 15 (.aaload) 1 16 := by decide +kernel
theorem dX0_lawOf_16 : am_at cX0_lawOf 16 (.goto 7) 3 19 := by decide +kernel
theorem dX0_lawOf_19 : am_at cX0_lawOf 19 (.aload_n 0) 1 20 := by decide +kernel
theorem dX0_lawOf_20 : am_at cX0_lawOf 20 (.getfield 18) 3 23 := by decide +kernel
theorem dX0_lawOf_23 : am_at cX0_lawOf 23 (.areturn) 1 24 := by decide +kernel
def fxX0_lawOf (l0 : Option Nat) (l1 : Int32) (h : am_H) : Option (Option Nat × am_H) := am_bd (fxX9_within l1 (0 : Int32) (13 : Int32) h) (fun r1 h2 => if r1 = 0 then (am_gd (am_ob h2 l0 0) (some ((am_gr h2 l0 1), h2))) else (am_gd (am_ob h2 l0 0) (am_gd (am_ix h2 (am_gr h2 l0 0) 4 l1) (some ((am_gr h2 (am_gr h2 l0 0) l1.toNatClampNeg), h2)))))
set_option maxRecDepth 100000 in
theorem sxX0_lawOf {xs : List Int32} (l0 : Option Nat) (l1 : Int32) (h : am_H) : am_Sm xs am_cr mX0_lawOf 1 0 0 0 [some (am_R l0), some (am_I l1)] [] h (fxX0_lawOf l0 l1 h) := by
  unfold fxX0_lawOf
  refine am_iload_n dX0_lawOf_0 rfl ?_
  refine am_iconst (v := 0) dX0_lawOf_1 (by decide) ?_
  refine am_bipush (v := 13) dX0_lawOf_2 (by decide) ?_
  refine am_callS (cvj := am_ci) (mtj := mX9_within) (dj := 0) (nj := 3) (rcj := 0) (rsj := 0) (rc' := 0) (rs' := 0) (st' := fun a9 => (am_I a9 :: [])) [am_I l1, am_I (0 : Int32), am_I (13 : Int32)] [] dX0_lawOf_4 okX9_within lk_RX0_26 (fun zA zH zE => txX9_within l1 (0 : Int32) (13 : Int32) h zA zH zE) rfl (fun _ => rfl) (by decide) rfl (Nat.le_of_ble_eq_true rfl) (by decide) (by decide) (fun r1 h2 => ?_)
  refine am_if_eq (tgt := 19) dX0_lawOf_7 (by decide) (fun c3 => ?_) (fun c3 => ?_)
  · refine am_aload_n dX0_lawOf_19 rfl ?_
    refine am_getR dX0_lawOf_20 fk_RX0_18 rfl ?_
    exact am_rret dX0_lawOf_23 ⟨_, rfl⟩ rfl
  refine am_aload_n dX0_lawOf_10 rfl ?_
  refine am_getR dX0_lawOf_11 fk_RX0_11 rfl ?_
  refine am_iload_n dX0_lawOf_14 rfl ?_
  refine am_aald (t := 4) dX0_lawOf_15 (by decide) (by decide) ?_
  refine am_goto (tgt := 23) dX0_lawOf_16 (by decide) ?_
  exact am_rret dX0_lawOf_23 ⟨_, rfl⟩ rfl
theorem txX0_lawOf {xs : List Int32} (l0 : Option Nat) (l1 : Int32) (h : am_H) (a : Option Nat) (h2 : am_H) (e : fxX0_lawOf l0 l1 h = some (a, h2)) : am_Ct xs mX0_lawOf 1 0 0 [am_R l0, am_I l1] h (fun v h3 => v = am_cr a ∧ h3 = h2) := am_meth okX0_lawOf (Nat.le_of_ble_eq_true rfl) rfl (sxX0_lawOf l0 l1 h) e
theorem dX0_operand_0 : am_at cX0_operand 0 (.iload_n 0) 1 1 := by decide +kernel
theorem dX0_operand_1 : am_at cX0_operand 1 (.tableswitch 33 (-3) (-1) #[31, 29, 27]) 27 28 := by decide +kernel
theorem dX0_operand_28 : am_at cX0_operand 28 (.iload_n 1) 1 29 := by decide +kernel
theorem dX0_operand_29 : am_at cX0_operand 29 (.ireturn) 1 30 := by decide +kernel
theorem dX0_operand_30 : am_at cX0_operand 30 (.iload_n 2) 1 31 := by decide +kernel
theorem dX0_operand_31 : am_at cX0_operand 31 (.ireturn) 1 32 := by decide +kernel
theorem dX0_operand_32 : am_at cX0_operand 32 (.iload_n 3) 1 33 := by decide +kernel
theorem dX0_operand_33 : am_at cX0_operand 33 (.ireturn) 1 34 := by decide +kernel
theorem dX0_operand_34 : am_at cX0_operand 34 (.iload_n 0) 1 35 := by decide +kernel
theorem dX0_operand_35 : am_at cX0_operand 35 (.ireturn) 1 36 := by decide +kernel
def fxX0_operand (l0 : Int32) (l1 : Int32) (l2 : Int32) (l3 : Int32) (h : am_H) : Option (Int32 × am_H) := if l0 = (-3) then (some (l3, h)) else (if l0 = (-2) then (some (l2, h)) else (if l0 = (-1) then (some (l1, h)) else (some (l0, h))))
set_option maxRecDepth 100000 in
theorem sxX0_operand {xs : List Int32} (l0 : Int32) (l1 : Int32) (l2 : Int32) (l3 : Int32) (h : am_H) : am_Sm xs am_ci mX0_operand 0 0 0 0 [some (am_I l0), some (am_I l1), some (am_I l2), some (am_I l3)] [] h (fxX0_operand l0 l1 l2 l3 h) := by
  unfold fxX0_operand
  refine am_iload_n dX0_operand_0 rfl ?_
  refine am_table (cs := [((-3), 32), ((-2), 30), ((-1), 28)]) (dt := 34) dX0_operand_1 (by decide +kernel) ?_
  refine am_sw_cons (fun c1 => ?_) (fun c1 => ?_)
  · refine am_iload_n dX0_operand_32 rfl ?_
    exact am_iret dX0_operand_33 rfl rfl
  refine am_sw_cons (fun c2 => ?_) (fun c2 => ?_)
  · refine am_iload_n dX0_operand_30 rfl ?_
    exact am_iret dX0_operand_31 rfl rfl
  refine am_sw_cons (fun c3 => ?_) (fun c3 => ?_)
  · refine am_iload_n dX0_operand_28 rfl ?_
    exact am_iret dX0_operand_29 rfl rfl
  refine am_sw_nil ?_
  refine am_iload_n dX0_operand_34 rfl ?_
  exact am_iret dX0_operand_35 rfl rfl
theorem txX0_operand {xs : List Int32} (l0 : Int32) (l1 : Int32) (l2 : Int32) (l3 : Int32) (h : am_H) (a : Int32) (h2 : am_H) (e : fxX0_operand l0 l1 l2 l3 h = some (a, h2)) : am_Ct xs mX0_operand 0 0 0 [am_I l0, am_I l1, am_I l2, am_I l3] h (fun v h3 => v = am_ci a ∧ h3 = h2) := am_meth okX0_operand (Nat.le_of_ble_eq_true rfl) rfl (sxX0_operand l0 l1 l2 l3 h) e
theorem dX0_worked_0 : am_at cX0_worked 0 (.iload_n 0) 1 1 := by decide +kernel
theorem dX0_worked_1 : am_at cX0_worked 1 (.tableswitch 186 38 62 #[172, 186, 186, 186, 115, 131, 186, 135, 186, 119, 186, 186, 186, 186, 186, 186, 186, 186, 186, 186, 186, 186, 139, 150, 161]) 115 116 := by decide +kernel
theorem dX0_worked_116 : am_at cX0_worked 116 (.iload_n 1) 1 117 := by decide +kernel
theorem dX0_worked_117 : am_at cX0_worked 117 (.iload_n 2) 1 118 := by decide +kernel
theorem dX0_worked_118 : am_at cX0_worked 118 (.imul) 1 119 := by decide +kernel
theorem dX0_worked_119 : am_at cX0_worked 119 (.ireturn) 1 120 := by decide +kernel
theorem dX0_worked_120 : am_at cX0_worked 120 (.iload_n 2) 1 121 := by decide +kernel
theorem dX0_worked_121 : am_at cX0_worked 121 (.ifCond .ne 7) 3 124 := by decide +kernel
theorem dX0_worked_124 : am_at cX0_worked 124 (.iconst 0) 1 125 := by decide +kernel
theorem dX0_worked_125 : am_at cX0_worked 125 (.goto 6) 3 128 := by decide +kernel
theorem dX0_worked_128 : am_at cX0_worked 128 (.iload_n 1) 1 129 := by decide +kernel
theorem dX0_worked_129 : am_at cX0_worked 129 (.iload_n 2) 1 130 := by decide +kernel
theorem dX0_worked_130 : am_at cX0_worked 130 (.idiv) 1 131 := by decide +kernel
theorem dX0_worked_131 : am_at cX0_worked 131 (.ireturn) 1 132 := by decide +kernel
theorem dX0_worked_132 : am_at cX0_worked 132 (.iload_n 1) 1 133 := by decide +kernel
theorem dX0_worked_133 : am_at cX0_worked 133 (.iload_n 2) 1 134 := by decide +kernel
theorem dX0_worked_134 : am_at cX0_worked 134 (.iadd) 1 135 := by decide +kernel
theorem dX0_worked_135 : am_at cX0_worked 135 (.ireturn) 1 136 := by decide +kernel
theorem dX0_worked_136 : am_at cX0_worked 136 (.iload_n 1) 1 137 := by decide +kernel
theorem dX0_worked_137 : am_at cX0_worked 137 (.iload_n 2) 1 138 := by decide +kernel
theorem dX0_worked_138 : am_at cX0_worked 138 (.isub) 1 139 := by decide +kernel
theorem dX0_worked_139 : am_at cX0_worked 139 (.ireturn) 1 140 := by decide +kernel
theorem dX0_worked_140 : am_at cX0_worked 140 (.iload_n 1) 1 141 := by decide +kernel
theorem dX0_worked_141 : am_at cX0_worked 141 (.iload_n 2) 1 142 := by decide +kernel
theorem dX0_worked_142 : am_at cX0_worked 142 (.if_icmp .ge 7) 3 145 := by decide +kernel
theorem dX0_worked_145 : am_at cX0_worked 145 (.iconst 1) 1 146 := by decide +kernel
theorem dX0_worked_146 : am_at cX0_worked 146 (.goto 4) 3 149 := by decide +kernel
theorem dX0_worked_149 : am_at cX0_worked 149 (.iconst 0) 1 150 := by decide +kernel
theorem dX0_worked_150 : am_at cX0_worked 150 (.ireturn) 1 151 := by decide +kernel
theorem dX0_worked_151 : am_at cX0_worked 151 (.iload_n 1) 1 152 := by decide +kernel
theorem dX0_worked_152 : am_at cX0_worked 152 (.iload_n 2) 1 153 := by decide +kernel
theorem dX0_worked_153 : am_at cX0_worked 153 (.if_icmp .ne 7) 3 156 := by decide +kernel
theorem dX0_worked_156 : am_at cX0_worked 156 (.iconst 1) 1 157 := by decide +kernel
theorem dX0_worked_157 : am_at cX0_worked 157 (.goto 4) 3 160 := by decide +kernel
theorem dX0_worked_160 : am_at cX0_worked 160 (.iconst 0) 1 161 := by decide +kernel
theorem dX0_worked_161 : am_at cX0_worked 161 (.ireturn) 1 162 := by decide +kernel
theorem dX0_worked_162 : am_at cX0_worked 162 (.iload_n 1) 1 163 := by decide +kernel
theorem dX0_worked_163 : am_at cX0_worked 163 (.iload_n 2) 1 164 := by decide +kernel
theorem dX0_worked_164 : am_at cX0_worked 164 (.if_icmp .le 7) 3 167 := by decide +kernel
theorem dX0_worked_167 : am_at cX0_worked 167 (.iconst 1) 1 168 := by decide +kernel
theorem dX0_worked_168 : am_at cX0_worked 168 (.goto 4) 3 171 := by decide +kernel
theorem dX0_worked_171 : am_at cX0_worked 171 (.iconst 0) 1 172 := by decide +kernel
theorem dX0_worked_172 : am_at cX0_worked 172 (.ireturn) 1 173 := by decide +kernel
theorem dX0_worked_173 : am_at cX0_worked 173 (.iload_n 1) 1 174 := by decide +kernel
theorem dX0_worked_174 : am_at cX0_worked 174 (.ifCond .eq 11) 3 177 := by decide +kernel
theorem dX0_worked_177 : am_at cX0_worked 177 (.iload_n 2) 1 178 := by decide +kernel
theorem dX0_worked_178 : am_at cX0_worked 178 (.ifCond .eq 7) 3 181 := by decide +kernel
theorem dX0_worked_181 : am_at cX0_worked 181 (.iconst 1) 1 182 := by decide +kernel
theorem dX0_worked_182 : am_at cX0_worked 182 (.goto 4) 3 185 := by decide +kernel
theorem dX0_worked_185 : am_at cX0_worked 185 (.iconst 0) 1 186 := by decide +kernel
theorem dX0_worked_186 : am_at cX0_worked 186 (.ireturn) 1 187 := by decide +kernel
theorem dX0_worked_187 : am_at cX0_worked 187 (.iload_n 1) 1 188 := by decide +kernel
theorem dX0_worked_188 : am_at cX0_worked 188 (.ifCond .ne 7) 3 191 := by decide +kernel
theorem dX0_worked_191 : am_at cX0_worked 191 (.iload_n 2) 1 192 := by decide +kernel
theorem dX0_worked_192 : am_at cX0_worked 192 (.ifCond .eq 7) 3 195 := by decide +kernel
theorem dX0_worked_195 : am_at cX0_worked 195 (.iconst 1) 1 196 := by decide +kernel
theorem dX0_worked_196 : am_at cX0_worked 196 (.goto 4) 3 199 := by decide +kernel
theorem dX0_worked_199 : am_at cX0_worked 199 (.iconst 0) 1 200 := by decide +kernel
theorem dX0_worked_200 : am_at cX0_worked 200 (.ireturn) 1 201 := by decide +kernel
def fxX0_worked_b195 (h : am_H) : Option (Int32 × am_H) := some ((1 : Int32), h)
set_option maxRecDepth 100000 in
theorem sxX0_worked_b195 {xs : List Int32} (h : am_H) : am_Sm xs am_ci mX0_worked 0 0 0 195 [none, none, none] [] h (fxX0_worked_b195 h) := by
  unfold fxX0_worked_b195
  refine am_iconst (v := 1) dX0_worked_195 (by decide) ?_
  refine am_goto (tgt := 200) dX0_worked_196 (by decide) ?_
  exact am_iret dX0_worked_200 rfl rfl
def fxX0_worked (l0 : Int32) (l1 : Int32) (l2 : Int32) (h : am_H) : Option (Int32 × am_H) := if l0 = 38 then (if l1 = 0 then (some ((0 : Int32), h)) else (if l2 = 0 then (some ((0 : Int32), h)) else (some ((1 : Int32), h)))) else (if l0 = 42 then (some ((l1 * l2), h)) else (if l0 = 43 then (some ((l1 + l2), h)) else (if l0 = 45 then (some ((l1 - l2), h)) else (if l0 = 47 then (if l2 = 0 then (some ((0 : Int32), h)) else (am_gd (am_nz l2) (some ((l1 / l2), h)))) else (if l0 = 60 then (if l2 ≤ l1 then (some ((0 : Int32), h)) else (some ((1 : Int32), h))) else (if l0 = 61 then (if l1 = l2 then (some ((1 : Int32), h)) else (some ((0 : Int32), h))) else (if l0 = 62 then (if l1 ≤ l2 then (some ((0 : Int32), h)) else (some ((1 : Int32), h))) else (if l1 = 0 then (if l2 = 0 then (some ((0 : Int32), h)) else (fxX0_worked_b195 h)) else (fxX0_worked_b195 h)))))))))
set_option maxRecDepth 100000 in
theorem sxX0_worked {xs : List Int32} (l0 : Int32) (l1 : Int32) (l2 : Int32) (h : am_H) : am_Sm xs am_ci mX0_worked 0 0 0 0 [some (am_I l0), some (am_I l1), some (am_I l2)] [] h (fxX0_worked l0 l1 l2 h) := by
  unfold fxX0_worked
  refine am_iload_n dX0_worked_0 rfl ?_
  refine am_table (cs := [(38, 173), (42, 116), (43, 132), (45, 136), (47, 120), (60, 140), (61, 151), (62, 162)]) (dt := 187) dX0_worked_1 (by decide +kernel) ?_
  refine am_sw_cons (fun c3 => ?_) (fun c3 => ?_)
  · refine am_iload_n dX0_worked_173 rfl ?_
    refine am_if_eq (tgt := 185) dX0_worked_174 (by decide) (fun c2 => ?_) (fun c2 => ?_)
    · refine am_iconst (v := 0) dX0_worked_185 (by decide) ?_
      exact am_iret dX0_worked_186 rfl rfl
    refine am_iload_n dX0_worked_177 rfl ?_
    refine am_if_eq (tgt := 185) dX0_worked_178 (by decide) (fun c1 => ?_) (fun c1 => ?_)
    · refine am_iconst (v := 0) dX0_worked_185 (by decide) ?_
      exact am_iret dX0_worked_186 rfl rfl
    refine am_iconst (v := 1) dX0_worked_181 (by decide) ?_
    refine am_goto (tgt := 186) dX0_worked_182 (by decide) ?_
    exact am_iret dX0_worked_186 rfl rfl
  refine am_sw_cons (fun c4 => ?_) (fun c4 => ?_)
  · refine am_iload_n dX0_worked_116 rfl ?_
    refine am_iload_n dX0_worked_117 rfl ?_
    refine am_imul dX0_worked_118 ?_
    exact am_iret dX0_worked_119 rfl rfl
  refine am_sw_cons (fun c5 => ?_) (fun c5 => ?_)
  · refine am_iload_n dX0_worked_132 rfl ?_
    refine am_iload_n dX0_worked_133 rfl ?_
    refine am_iadd dX0_worked_134 ?_
    exact am_iret dX0_worked_135 rfl rfl
  refine am_sw_cons (fun c6 => ?_) (fun c6 => ?_)
  · refine am_iload_n dX0_worked_136 rfl ?_
    refine am_iload_n dX0_worked_137 rfl ?_
    refine am_isub dX0_worked_138 ?_
    exact am_iret dX0_worked_139 rfl rfl
  refine am_sw_cons (fun c8 => ?_) (fun c8 => ?_)
  · refine am_iload_n dX0_worked_120 rfl ?_
    refine am_if_ne (tgt := 128) dX0_worked_121 (by decide) (fun c7 => ?_) (fun c7 => ?_)
    · refine am_iload_n dX0_worked_128 rfl ?_
      refine am_iload_n dX0_worked_129 rfl ?_
      refine am_idiv dX0_worked_130 ?_
      exact am_iret dX0_worked_131 rfl rfl
    refine am_iconst (v := 0) dX0_worked_124 (by decide) ?_
    refine am_goto (tgt := 131) dX0_worked_125 (by decide) ?_
    exact am_iret dX0_worked_131 rfl rfl
  refine am_sw_cons (fun c10 => ?_) (fun c10 => ?_)
  · refine am_iload_n dX0_worked_140 rfl ?_
    refine am_iload_n dX0_worked_141 rfl ?_
    refine am_icmp_ge (tgt := 149) dX0_worked_142 (by decide) (fun c9 => ?_) (fun c9 => ?_)
    · refine am_iconst (v := 0) dX0_worked_149 (by decide) ?_
      exact am_iret dX0_worked_150 rfl rfl
    refine am_iconst (v := 1) dX0_worked_145 (by decide) ?_
    refine am_goto (tgt := 150) dX0_worked_146 (by decide) ?_
    exact am_iret dX0_worked_150 rfl rfl
  refine am_sw_cons (fun c12 => ?_) (fun c12 => ?_)
  · refine am_iload_n dX0_worked_151 rfl ?_
    refine am_iload_n dX0_worked_152 rfl ?_
    refine am_icmp_ne (tgt := 160) dX0_worked_153 (by decide) (fun c11 => ?_) (fun c11 => ?_)
    · refine am_iconst (v := 0) dX0_worked_160 (by decide) ?_
      exact am_iret dX0_worked_161 rfl rfl
    refine am_iconst (v := 1) dX0_worked_156 (by decide) ?_
    refine am_goto (tgt := 161) dX0_worked_157 (by decide) ?_
    exact am_iret dX0_worked_161 rfl rfl
  refine am_sw_cons (fun c14 => ?_) (fun c14 => ?_)
  · refine am_iload_n dX0_worked_162 rfl ?_
    refine am_iload_n dX0_worked_163 rfl ?_
    refine am_icmp_le (tgt := 171) dX0_worked_164 (by decide) (fun c13 => ?_) (fun c13 => ?_)
    · refine am_iconst (v := 0) dX0_worked_171 (by decide) ?_
      exact am_iret dX0_worked_172 rfl rfl
    refine am_iconst (v := 1) dX0_worked_167 (by decide) ?_
    refine am_goto (tgt := 172) dX0_worked_168 (by decide) ?_
    exact am_iret dX0_worked_172 rfl rfl
  refine am_sw_nil ?_
  refine am_iload_n dX0_worked_187 rfl ?_
  refine am_if_ne (tgt := 195) dX0_worked_188 (by decide) (fun c16 => ?_) (fun c16 => ?_)
  · exact am_weak (sxX0_worked_b195 h) trivial (Nat.le_refl _) (Nat.le_refl _)
  refine am_iload_n dX0_worked_191 rfl ?_
  refine am_if_eq (tgt := 199) dX0_worked_192 (by decide) (fun c15 => ?_) (fun c15 => ?_)
  · refine am_iconst (v := 0) dX0_worked_199 (by decide) ?_
    exact am_iret dX0_worked_200 rfl rfl
  exact am_weak (sxX0_worked_b195 h) trivial (Nat.le_refl _) (Nat.le_refl _)
theorem txX0_worked {xs : List Int32} (l0 : Int32) (l1 : Int32) (l2 : Int32) (h : am_H) (a : Int32) (h2 : am_H) (e : fxX0_worked l0 l1 l2 h = some (a, h2)) : am_Ct xs mX0_worked 0 0 0 [am_I l0, am_I l1, am_I l2] h (fun v h3 => v = am_ci a ∧ h3 = h2) := am_meth okX0_worked (Nat.le_of_ble_eq_true rfl) rfl (sxX0_worked l0 l1 l2 h) e
theorem dX0_give_0 : am_at cX0_give 0 (.aload_n 0) 1 1 := by decide +kernel
theorem dX0_give_1 : am_at cX0_give 1 (.iload_n 1) 1 2 := by decide +kernel
theorem dX0_give_2 : am_at cX0_give 2 (.invokevirtual 30) 3 5 := by decide +kernel
theorem dX0_give_5 : am_at cX0_give 5 (.astore 5) 2 7 := by decide +kernel
theorem dX0_give_7 : am_at cX0_give 7 (.iconst 0) 1 8 := by decide +kernel
theorem dX0_give_8 : am_at cX0_give 8 (.istore 6) 2 10 := by decide +kernel
theorem dX0_give_10 : am_at cX0_give 10 (.iconst 0) 1 11 := by decide +kernel
theorem dX0_give_11 : am_at cX0_give 11 (.istore 7) 2 13 := by decide +kernel
theorem dX0_give_13 : am_at cX0_give 13 (.iload 7) 2 15 := by decide +kernel
theorem dX0_give_15 : am_at cX0_give 15 (.aload 5) 2 17 := by decide +kernel
theorem dX0_give_17 : am_at cX0_give 17 (.getfield 34) 3 20 := by decide +kernel
theorem dX0_give_20 : am_at cX0_give 20 (.if_icmp .ge 137) 3 23 := by decide +kernel
theorem dX0_give_23 : am_at cX0_give 23 (.iload 6) 2 25 := by decide +kernel
theorem dX0_give_25 : am_at cX0_give 25 (.bipush 96) 2 27 := by decide +kernel
theorem dX0_give_27 : am_at cX0_give 27 (.if_icmp .ge 130) 3 30 := by decide +kernel
theorem dX0_give_30 : am_at cX0_give 30 (.aload 5) 2 32 := by decide +kernel
theorem dX0_give_32 : am_at cX0_give 32 (.getfield 38) 3 35 := by decide +kernel
theorem dX0_give_35 : am_at cX0_give 35 (.iload 7) 2 37 := by decide +kernel
theorem dX0_give_37 : am_at cX0_give 37 (.iaload) 1 38 := by decide +kernel
theorem dX0_give_38 : am_at cX0_give 38 (.istore 8) 2 40 := by decide +kernel
theorem dX0_give_40 : am_at cX0_give 40 (.iload 8) 2 42 := by decide +kernel
theorem dX0_give_42 : am_at cX0_give 42 (.bipush (-3)) 2 44 := by decide +kernel
theorem dX0_give_44 : am_at cX0_give 44 (.if_icmp .lt 25) 3 47 := by decide +kernel
theorem dX0_give_47 : am_at cX0_give 47 (.aload_n 0) 1 48 := by decide +kernel
theorem dX0_give_48 : am_at cX0_give 48 (.getfield 22) 3 51 := by decide +kernel
theorem dX0_give_51 : am_at cX0_give 51 (.iload 6) 2 53 := by decide +kernel
theorem dX0_give_53 : am_at cX0_give 53 (.iload 8) 2 55 := by decide +kernel
theorem dX0_give_55 : am_at cX0_give 55 (.iload_n 2) 1 56 := by decide +kernel
theorem dX0_give_56 : am_at cX0_give 56 (.iload_n 3) 1 57 := by decide +kernel
theorem dX0_give_57 : am_at cX0_give 57 (.iload 4) 2 59 := by decide +kernel
theorem dX0_give_59 : am_at cX0_give 59 (.invokestatic 41) 3 62 := by decide +kernel
theorem dX0_give_62 : am_at cX0_give 62 (.iastore) 1 63 := by decide +kernel
theorem dX0_give_63 : am_at cX0_give 63 (.iinc 6 1) 3 66 := by decide +kernel
theorem dX0_give_66 : am_at cX0_give 66 (.goto 85) 3 69 := by decide +kernel
theorem dX0_give_69 : am_at cX0_give 69 (.iload 8) 2 71 := by decide +kernel
theorem dX0_give_71 : am_at cX0_give 71 (.bipush (-33)) 2 73 := by decide +kernel
theorem dX0_give_73 : am_at cX0_give 73 (.if_icmp .ne 38) 3 76 := by decide +kernel
theorem dX0_give_76 : am_at cX0_give 76 (.iload 6) 2 78 := by decide +kernel
theorem dX0_give_78 : am_at cX0_give 78 (.iconst 1) 1 79 := by decide +kernel
theorem dX0_give_79 : am_at cX0_give 79 (.if_icmp .lt 72) 3 82 := by decide +kernel
theorem dX0_give_82 : am_at cX0_give 82 (.aload_n 0) 1 83 := by decide +kernel
theorem dX0_give_83 : am_at cX0_give 83 (.getfield 22) 3 86 := by decide +kernel
theorem dX0_give_86 : am_at cX0_give 86 (.iload 6) 2 88 := by decide +kernel
theorem dX0_give_88 : am_at cX0_give 88 (.iconst 1) 1 89 := by decide +kernel
theorem dX0_give_89 : am_at cX0_give 89 (.isub) 1 90 := by decide +kernel
theorem dX0_give_90 : am_at cX0_give 90 (.aload_n 0) 1 91 := by decide +kernel
theorem dX0_give_91 : am_at cX0_give 91 (.getfield 22) 3 94 := by decide +kernel
theorem dX0_give_94 : am_at cX0_give 94 (.iload 6) 2 96 := by decide +kernel
theorem dX0_give_96 : am_at cX0_give 96 (.iconst 1) 1 97 := by decide +kernel
theorem dX0_give_97 : am_at cX0_give 97 (.isub) 1 98 := by decide +kernel
theorem dX0_give_98 : am_at cX0_give 98 (.iaload) 1 99 := by decide +kernel
theorem dX0_give_99 : am_at cX0_give 99 (.ifCond .ne 7) 3 102 := by decide +kernel
theorem dX0_give_102 : am_at cX0_give 102 (.iconst 1) 1 103 := by decide +kernel
theorem dX0_give_103 : am_at cX0_give 103 (.goto 4) 3 106 := by decide +kernel
theorem dX0_give_106 : am_at cX0_give 106 (.iconst 0) 1 107 := by decide +kernel
theorem dX0_give_107 : am_at cX0_give 107 (.iastore) 1 108 := by decide +kernel
theorem dX0_give_108 : am_at cX0_give 108 (.goto 43) 3 111 := by decide +kernel
theorem dX0_give_111 : am_at cX0_give 111 (.iload 6) 2 113 := by decide +kernel
theorem dX0_give_113 : am_at cX0_give 113 (.iconst 2) 1 114 := by decide +kernel
theorem dX0_give_114 : am_at cX0_give 114 (.if_icmp .lt 37) 3 117 := by decide +kernel
theorem dX0_give_117 : am_at cX0_give 117 (.iinc 6 (-1)) 3 120 := by decide +kernel
theorem dX0_give_120 : am_at cX0_give 120 (.aload_n 0) 1 121 := by decide +kernel
theorem dX0_give_121 : am_at cX0_give 121 (.getfield 22) 3 124 := by decide +kernel
theorem dX0_give_124 : am_at cX0_give 124 (.iload 6) 2 126 := by decide +kernel
theorem dX0_give_126 : am_at cX0_give 126 (.iconst 1) 1 127 := by decide +kernel
theorem dX0_give_127 : am_at cX0_give 127 (.isub) 1 128 := by decide +kernel
theorem dX0_give_128 : am_at cX0_give 128 (.iload 8) 2 130 := by decide +kernel
theorem dX0_give_130 : am_at cX0_give 130 (.ineg) 1 131 := by decide +kernel
theorem dX0_give_131 : am_at cX0_give 131 (.aload_n 0) 1 132 := by decide +kernel
theorem dX0_give_132 : am_at cX0_give 132 (.getfield 22) 3 135 := by decide +kernel
theorem dX0_give_135 : am_at cX0_give 135 (.iload 6) 2 137 := by decide +kernel
theorem dX0_give_137 : am_at cX0_give 137 (.iconst 1) 1 138 := by decide +kernel
theorem dX0_give_138 : am_at cX0_give 138 (.isub) 1 139 := by decide +kernel
theorem dX0_give_139 : am_at cX0_give 139 (.iaload) 1 140 := by decide +kernel
theorem dX0_give_140 : am_at cX0_give 140 (.aload_n 0) 1 141 := by decide +kernel
theorem dX0_give_141 : am_at cX0_give 141 (.getfield 22) 3 144 := by decide +kernel
theorem dX0_give_144 : am_at cX0_give 144 (.iload 6) 2 146 := by decide +kernel
theorem dX0_give_146 : am_at cX0_give 146 (.iaload) 1 147 := by decide +kernel
theorem dX0_give_147 : am_at cX0_give 147 (.invokestatic 45) 3 150 := by decide +kernel
theorem dX0_give_150 : am_at cX0_give 150 (.iastore) 1 151 := by decide +kernel
theorem dX0_give_151 : am_at cX0_give 151 (.iinc 7 1) 3 154 := by decide +kernel
theorem dX0_give_154 : am_at cX0_give 154 (.goto (-141)) 3 157 := by decide +kernel
theorem dX0_give_157 : am_at cX0_give 157 (.aload_n 0) 1 158 := by decide +kernel
theorem dX0_give_158 : am_at cX0_give 158 (.getfield 22) 3 161 := by decide +kernel
theorem dX0_give_161 : am_at cX0_give 161 (.iconst 0) 1 162 := by decide +kernel
theorem dX0_give_162 : am_at cX0_give 162 (.iaload) 1 163 := by decide +kernel
theorem dX0_give_163 : am_at cX0_give 163 (.ireturn) 1 164 := by decide +kernel
def fxX0_give_b151 (k13 : Option Nat → Int32 → Int32 → Int32 → Option Nat → Int32 → Int32 → am_H → Option (Int32 × am_H)) (l0 : Option Nat) (l2 : Int32) (l3 : Int32) (l4 : Int32) (l5 : Option Nat) (l6 : Int32) (l7 : Int32) (h : am_H) : Option (Int32 × am_H) := am_lt (l7 + 1) (fun x22 => k13 l0 l2 l3 l4 l5 l6 x22 h)
set_option maxRecDepth 100000 in
theorem sxX0_give_b151 {xs : List Int32} (k13 : Option Nat → Int32 → Int32 → Int32 → Option Nat → Int32 → Int32 → am_H → Option (Int32 × am_H)) (hk13 : ∀ (l0 : Option Nat) (l2 : Int32) (l3 : Int32) (l4 : Int32) (l5 : Option Nat) (l6 : Int32) (l7 : Int32) (h : am_H), am_Sm xs am_ci mX0_give 2 0 0 13 [some (am_R l0), none, some (am_I l2), some (am_I l3), some (am_I l4), some (am_R l5), some (am_I l6), some (am_I l7), none] [] h (k13 l0 l2 l3 l4 l5 l6 l7 h)) (l0 : Option Nat) (l2 : Int32) (l3 : Int32) (l4 : Int32) (l5 : Option Nat) (l6 : Int32) (l7 : Int32) (h : am_H) : am_Sm xs am_ci mX0_give 2 0 0 151 [some (am_R l0), none, some (am_I l2), some (am_I l3), some (am_I l4), some (am_R l5), some (am_I l6), some (am_I l7), none] [] h (fxX0_give_b151 k13 l0 l2 l3 l4 l5 l6 l7 h) := by
  unfold fxX0_give_b151
  refine am_iinc (v := 1) (LL := fun y9 => [some (am_R l0), none, some (am_I l2), some (am_I l3), some (am_I l4), some (am_R l5), some (am_I l6), some (am_I y9), none]) dX0_give_151 (by decide) rfl (by decide) (fun _ => rfl) (fun x22 => ?_)
  refine am_goto (tgt := 13) dX0_give_154 (by decide) ?_
  exact am_weak (hk13 l0 l2 l3 l4 l5 l6 x22 h) ⟨rfl, ⟨rfl, ⟨rfl, ⟨rfl, ⟨rfl, ⟨rfl, ⟨rfl, trivial⟩⟩⟩⟩⟩⟩⟩ (Nat.le_refl _) (Nat.le_refl _)
def fxX0_give_b107 (k13 : Option Nat → Int32 → Int32 → Int32 → Option Nat → Int32 → Int32 → am_H → Option (Int32 × am_H)) (l0 : Option Nat) (l2 : Int32) (l3 : Int32) (l4 : Int32) (l5 : Option Nat) (l6 : Int32) (l7 : Int32) (s0 : Int32) (s1 : Int32) (s2 : Option Nat) (h : am_H) : Option (Int32 × am_H) := am_gd (am_ix h s2 0 s1) (am_lt (am_si h s2 s1.toNatClampNeg s0) (fun h23 => fxX0_give_b151 k13 l0 l2 l3 l4 l5 l6 l7 h23))
set_option maxRecDepth 100000 in
theorem sxX0_give_b107 {xs : List Int32} (k13 : Option Nat → Int32 → Int32 → Int32 → Option Nat → Int32 → Int32 → am_H → Option (Int32 × am_H)) (hk13 : ∀ (l0 : Option Nat) (l2 : Int32) (l3 : Int32) (l4 : Int32) (l5 : Option Nat) (l6 : Int32) (l7 : Int32) (h : am_H), am_Sm xs am_ci mX0_give 2 0 0 13 [some (am_R l0), none, some (am_I l2), some (am_I l3), some (am_I l4), some (am_R l5), some (am_I l6), some (am_I l7), none] [] h (k13 l0 l2 l3 l4 l5 l6 l7 h)) (l0 : Option Nat) (l2 : Int32) (l3 : Int32) (l4 : Int32) (l5 : Option Nat) (l6 : Int32) (l7 : Int32) (s0 : Int32) (s1 : Int32) (s2 : Option Nat) (h : am_H) : am_Sm xs am_ci mX0_give 2 0 0 107 [some (am_R l0), none, some (am_I l2), some (am_I l3), some (am_I l4), some (am_R l5), some (am_I l6), some (am_I l7), none] [am_I s0, am_I s1, am_R s2] h (fxX0_give_b107 k13 l0 l2 l3 l4 l5 l6 l7 s0 s1 s2 h) := by
  unfold fxX0_give_b107
  refine am_iast dX0_give_107 (fun h23 => ?_)
  refine am_goto (tgt := 151) dX0_give_108 (by decide) ?_
  exact am_weak (sxX0_give_b151 k13 hk13 l0 l2 l3 l4 l5 l6 l7 h23) ⟨rfl, ⟨rfl, ⟨rfl, ⟨rfl, ⟨rfl, ⟨rfl, ⟨rfl, trivial⟩⟩⟩⟩⟩⟩⟩ (Nat.le_refl _) (Nat.le_refl _)
def fxX0_give_b157 (l0 : Option Nat) (h : am_H) : Option (Int32 × am_H) := am_gd (am_ob h l0 0) (am_gd (am_ix h (am_gr h l0 2) 0 (0 : Int32)) (some ((am_gi h (am_gr h l0 2) (0 : Int32).toNatClampNeg), h)))
set_option maxRecDepth 100000 in
theorem sxX0_give_b157 {xs : List Int32} (l0 : Option Nat) (h : am_H) : am_Sm xs am_ci mX0_give 2 0 0 157 [some (am_R l0), none, none, none, none, none, none, none, none] [] h (fxX0_give_b157 l0 h) := by
  unfold fxX0_give_b157
  refine am_aload_n dX0_give_157 rfl ?_
  refine am_getR dX0_give_158 fk_RX0_22 rfl ?_
  refine am_iconst (v := 0) dX0_give_161 (by decide) ?_
  refine am_iald dX0_give_162 ?_
  exact am_iret dX0_give_163 rfl rfl
def fxX0_give_b13 : Nat → Option Nat → Int32 → Int32 → Int32 → Option Nat → Int32 → Int32 → am_H → Option (Int32 × am_H)
  | 0, _, _, _, _, _, _, _, _ => none
  | n + 1, l0, l2, l3, l4, l5, l6, l7, h => am_gd (am_ob h l5 3) (if (am_gi h l5 3) ≤ l7 then (fxX0_give_b157 l0 h) else (if (96 : Int32) ≤ l6 then (fxX0_give_b157 l0 h) else (am_gd (am_ob h l5 3) (am_gd (am_ix h (am_gr h l5 2) 0 l7) (am_lt (am_gi h (am_gr h l5 2) l7.toNatClampNeg) (fun x6 => if x6 < (-3 : Int32) then (if x6 = (-33 : Int32) then (if l6 < (1 : Int32) then (fxX0_give_b151 (fxX0_give_b13 n) l0 l2 l3 l4 l5 l6 l7 h) else (am_gd (am_ob h l0 0) (am_gd (am_ob h l0 0) (am_gd (am_ix h (am_gr h l0 2) 0 (l6 - (1 : Int32))) (if (am_gi h (am_gr h l0 2) (l6 - (1 : Int32)).toNatClampNeg) = 0 then (fxX0_give_b107 (fxX0_give_b13 n) l0 l2 l3 l4 l5 l6 l7 (1 : Int32) (l6 - (1 : Int32)) (am_gr h l0 2) h) else (fxX0_give_b107 (fxX0_give_b13 n) l0 l2 l3 l4 l5 l6 l7 (0 : Int32) (l6 - (1 : Int32)) (am_gr h l0 2) h)))))) else (if l6 < (2 : Int32) then (fxX0_give_b151 (fxX0_give_b13 n) l0 l2 l3 l4 l5 l6 l7 h) else (am_lt (l6 + (-1)) (fun x7 => am_gd (am_ob h l0 0) (am_gd (am_ob h l0 0) (am_gd (am_ix h (am_gr h l0 2) 0 (x7 - (1 : Int32))) (am_gd (am_ob h l0 0) (am_gd (am_ix h (am_gr h l0 2) 0 x7) (am_bd (fxX0_worked (-x6) (am_gi h (am_gr h l0 2) (x7 - (1 : Int32)).toNatClampNeg) (am_gi h (am_gr h l0 2) x7.toNatClampNeg) h) (fun r8 h9 => am_gd (am_ix h9 (am_gr h l0 2) 0 (x7 - (1 : Int32))) (am_lt (am_si h9 (am_gr h l0 2) (x7 - (1 : Int32)).toNatClampNeg r8) (fun h10 => fxX0_give_b151 (fxX0_give_b13 n) l0 l2 l3 l4 l5 x7 l7 h10)))))))))))) else (am_gd (am_ob h l0 0) (am_bd (fxX0_operand x6 l2 l3 l4 h) (fun r15 h16 => am_gd (am_ix h16 (am_gr h l0 2) 0 l6) (am_lt (am_si h16 (am_gr h l0 2) l6.toNatClampNeg r15) (fun h17 => am_lt (l6 + 1) (fun x18 => fxX0_give_b151 (fxX0_give_b13 n) l0 l2 l3 l4 l5 x18 l7 h17))))))))))))
set_option maxRecDepth 100000 in
theorem sxX0_give_b13 {xs : List Int32} : ∀ (n : Nat) (l0 : Option Nat) (l2 : Int32) (l3 : Int32) (l4 : Int32) (l5 : Option Nat) (l6 : Int32) (l7 : Int32) (h : am_H), am_Sm xs am_ci mX0_give 2 0 0 13 [some (am_R l0), none, some (am_I l2), some (am_I l3), some (am_I l4), some (am_R l5), some (am_I l6), some (am_I l7), none] [] h (fxX0_give_b13 n l0 l2 l3 l4 l5 l6 l7 h) := by
  intro n
  induction n with
  | zero => intros; exact am_none
  | succ n ih =>
    intro l0 l2 l3 l4 l5 l6 l7 h
    rw [fxX0_give_b13]
    refine am_iload dX0_give_13 rfl ?_
    refine am_aload dX0_give_15 rfl ?_
    refine am_getI dX0_give_17 fk_RX0_34 rfl ?_
    refine am_icmp_ge (tgt := 157) dX0_give_20 (by decide) (fun c21 => ?_) (fun c21 => ?_)
    · exact am_weak (sxX0_give_b157 l0 h) ⟨rfl, trivial⟩ (Nat.le_refl _) (Nat.le_refl _)
    refine am_iload dX0_give_23 rfl ?_
    refine am_bipush (v := 96) dX0_give_25 (by decide) ?_
    refine am_icmp_ge (tgt := 157) dX0_give_27 (by decide) (fun c20 => ?_) (fun c20 => ?_)
    · exact am_weak (sxX0_give_b157 l0 h) ⟨rfl, trivial⟩ (Nat.le_refl _) (Nat.le_refl _)
    refine am_aload dX0_give_30 rfl ?_
    refine am_getR dX0_give_32 fk_RX0_38 rfl ?_
    refine am_iload dX0_give_35 rfl ?_
    refine am_iald dX0_give_37 ?_
    refine am_istore (LL := fun y9 => [some (am_R l0), none, some (am_I l2), some (am_I l3), some (am_I l4), some (am_R l5), some (am_I l6), some (am_I l7), some (am_I y9)]) dX0_give_38 (by decide) (fun _ => rfl) (fun x6 => ?_)
    refine am_iload dX0_give_40 rfl ?_
    refine am_bipush (v := (-3)) dX0_give_42 (by decide) ?_
    refine am_icmp_lt (tgt := 69) dX0_give_44 (by decide) (fun c19 => ?_) (fun c19 => ?_)
    · refine am_iload dX0_give_69 rfl ?_
      refine am_bipush (v := (-33)) dX0_give_71 (by decide) ?_
      refine am_icmp_ne (tgt := 111) dX0_give_73 (by decide) (fun c14 => ?_) (fun c14 => ?_)
      · refine am_iload dX0_give_111 rfl ?_
        refine am_iconst (v := 2) dX0_give_113 (by decide) ?_
        refine am_icmp_lt (tgt := 151) dX0_give_114 (by decide) (fun c11 => ?_) (fun c11 => ?_)
        · exact am_weak (sxX0_give_b151 (fxX0_give_b13 n) ih l0 l2 l3 l4 l5 l6 l7 h) ⟨rfl, ⟨rfl, ⟨rfl, ⟨rfl, ⟨rfl, ⟨rfl, ⟨rfl, trivial⟩⟩⟩⟩⟩⟩⟩ (Nat.le_refl _) (Nat.le_refl _)
        refine am_iinc (v := (-1)) (LL := fun y9 => [some (am_R l0), none, some (am_I l2), some (am_I l3), some (am_I l4), some (am_R l5), some (am_I y9), some (am_I l7), some (am_I x6)]) dX0_give_117 (by decide) rfl (by decide) (fun _ => rfl) (fun x7 => ?_)
        refine am_aload_n dX0_give_120 rfl ?_
        refine am_getR dX0_give_121 fk_RX0_22 rfl ?_
        refine am_iload dX0_give_124 rfl ?_
        refine am_iconst (v := 1) dX0_give_126 (by decide) ?_
        refine am_isub dX0_give_127 ?_
        refine am_iload dX0_give_128 rfl ?_
        refine am_ineg dX0_give_130 ?_
        refine am_aload_n dX0_give_131 rfl ?_
        refine am_getR dX0_give_132 fk_RX0_22 rfl ?_
        refine am_iload dX0_give_135 rfl ?_
        refine am_iconst (v := 1) dX0_give_137 (by decide) ?_
        refine am_isub dX0_give_138 ?_
        refine am_iald dX0_give_139 ?_
        refine am_aload_n dX0_give_140 rfl ?_
        refine am_getR dX0_give_141 fk_RX0_22 rfl ?_
        refine am_iload dX0_give_144 rfl ?_
        refine am_iald dX0_give_146 ?_
        refine am_callS (cvj := am_ci) (mtj := mX0_worked) (dj := 0) (nj := 3) (rcj := 0) (rsj := 0) (rc' := 0) (rs' := 0) (st' := fun a9 => (am_I a9 :: [am_I (x7 - (1 : Int32)), am_R (am_gr h l0 2)])) [am_I (-x6), am_I (am_gi h (am_gr h l0 2) (x7 - (1 : Int32)).toNatClampNeg), am_I (am_gi h (am_gr h l0 2) x7.toNatClampNeg)] [am_I (x7 - (1 : Int32)), am_R (am_gr h l0 2)] dX0_give_147 okX0_worked lk_RX0_45 (fun zA zH zE => txX0_worked (-x6) (am_gi h (am_gr h l0 2) (x7 - (1 : Int32)).toNatClampNeg) (am_gi h (am_gr h l0 2) x7.toNatClampNeg) h zA zH zE) rfl (fun _ => rfl) (by decide) rfl (Nat.le_of_ble_eq_true rfl) (by decide) (by decide) (fun r8 h9 => ?_)
        refine am_iast dX0_give_150 (fun h10 => ?_)
        exact am_weak (sxX0_give_b151 (fxX0_give_b13 n) ih l0 l2 l3 l4 l5 x7 l7 h10) ⟨rfl, ⟨rfl, ⟨rfl, ⟨rfl, ⟨rfl, ⟨rfl, ⟨rfl, trivial⟩⟩⟩⟩⟩⟩⟩ (Nat.le_refl _) (Nat.le_refl _)
      refine am_iload dX0_give_76 rfl ?_
      refine am_iconst (v := 1) dX0_give_78 (by decide) ?_
      refine am_icmp_lt (tgt := 151) dX0_give_79 (by decide) (fun c13 => ?_) (fun c13 => ?_)
      · exact am_weak (sxX0_give_b151 (fxX0_give_b13 n) ih l0 l2 l3 l4 l5 l6 l7 h) ⟨rfl, ⟨rfl, ⟨rfl, ⟨rfl, ⟨rfl, ⟨rfl, ⟨rfl, trivial⟩⟩⟩⟩⟩⟩⟩ (Nat.le_refl _) (Nat.le_refl _)
      refine am_aload_n dX0_give_82 rfl ?_
      refine am_getR dX0_give_83 fk_RX0_22 rfl ?_
      refine am_iload dX0_give_86 rfl ?_
      refine am_iconst (v := 1) dX0_give_88 (by decide) ?_
      refine am_isub dX0_give_89 ?_
      refine am_aload_n dX0_give_90 rfl ?_
      refine am_getR dX0_give_91 fk_RX0_22 rfl ?_
      refine am_iload dX0_give_94 rfl ?_
      refine am_iconst (v := 1) dX0_give_96 (by decide) ?_
      refine am_isub dX0_give_97 ?_
      refine am_iald dX0_give_98 ?_
      refine am_if_ne (tgt := 106) dX0_give_99 (by decide) (fun c12 => ?_) (fun c12 => ?_)
      · refine am_iconst (v := 0) dX0_give_106 (by decide) ?_
        exact am_weak (sxX0_give_b107 (fxX0_give_b13 n) ih l0 l2 l3 l4 l5 l6 l7 (0 : Int32) (l6 - (1 : Int32)) (am_gr h l0 2) h) ⟨rfl, ⟨rfl, ⟨rfl, ⟨rfl, ⟨rfl, ⟨rfl, ⟨rfl, trivial⟩⟩⟩⟩⟩⟩⟩ (Nat.le_refl _) (Nat.le_refl _)
      refine am_iconst (v := 1) dX0_give_102 (by decide) ?_
      refine am_goto (tgt := 107) dX0_give_103 (by decide) ?_
      exact am_weak (sxX0_give_b107 (fxX0_give_b13 n) ih l0 l2 l3 l4 l5 l6 l7 (1 : Int32) (l6 - (1 : Int32)) (am_gr h l0 2) h) ⟨rfl, ⟨rfl, ⟨rfl, ⟨rfl, ⟨rfl, ⟨rfl, ⟨rfl, trivial⟩⟩⟩⟩⟩⟩⟩ (Nat.le_refl _) (Nat.le_refl _)
    refine am_aload_n dX0_give_47 rfl ?_
    refine am_getR dX0_give_48 fk_RX0_22 rfl ?_
    refine am_iload dX0_give_51 rfl ?_
    refine am_iload dX0_give_53 rfl ?_
    refine am_iload_n dX0_give_55 rfl ?_
    refine am_iload_n dX0_give_56 rfl ?_
    refine am_iload dX0_give_57 rfl ?_
    refine am_callS (cvj := am_ci) (mtj := mX0_operand) (dj := 0) (nj := 4) (rcj := 0) (rsj := 0) (rc' := 0) (rs' := 0) (st' := fun a9 => (am_I a9 :: [am_I l6, am_R (am_gr h l0 2)])) [am_I x6, am_I l2, am_I l3, am_I l4] [am_I l6, am_R (am_gr h l0 2)] dX0_give_59 okX0_operand lk_RX0_41 (fun zA zH zE => txX0_operand x6 l2 l3 l4 h zA zH zE) rfl (fun _ => rfl) (by decide) rfl (Nat.le_of_ble_eq_true rfl) (by decide) (by decide) (fun r15 h16 => ?_)
    refine am_iast dX0_give_62 (fun h17 => ?_)
    refine am_iinc (v := 1) (LL := fun y9 => [some (am_R l0), none, some (am_I l2), some (am_I l3), some (am_I l4), some (am_R l5), some (am_I y9), some (am_I l7), some (am_I x6)]) dX0_give_63 (by decide) rfl (by decide) (fun _ => rfl) (fun x18 => ?_)
    refine am_goto (tgt := 151) dX0_give_66 (by decide) ?_
    exact am_weak (sxX0_give_b151 (fxX0_give_b13 n) ih l0 l2 l3 l4 l5 x18 l7 h17) ⟨rfl, ⟨rfl, ⟨rfl, ⟨rfl, ⟨rfl, ⟨rfl, ⟨rfl, trivial⟩⟩⟩⟩⟩⟩⟩ (Nat.le_refl _) (Nat.le_refl _)
def fxX0_give (l0 : Option Nat) (l1 : Int32) (l2 : Int32) (l3 : Int32) (l4 : Int32) (h : am_H) : Option (Int32 × am_H) := am_gd (am_ob h l0 0) (am_bd (fxX0_lawOf l0 l1 h) (fun r1 h2 => am_lt r1 (fun q3 => am_lt (0 : Int32) (fun x4 => am_lt (0 : Int32) (fun x5 => fxX0_give_b13 am_F l0 l2 l3 l4 q3 x4 x5 h2)))))
set_option maxRecDepth 100000 in
theorem sxX0_give {xs : List Int32} (l0 : Option Nat) (l1 : Int32) (l2 : Int32) (l3 : Int32) (l4 : Int32) (h : am_H) : am_Sm xs am_ci mX0_give 2 0 0 0 [some (am_R l0), some (am_I l1), some (am_I l2), some (am_I l3), some (am_I l4), none, none, none, none] [] h (fxX0_give l0 l1 l2 l3 l4 h) := by
  unfold fxX0_give
  refine am_aload_n dX0_give_0 rfl ?_
  refine am_iload_n dX0_give_1 rfl ?_
  refine am_callV (cvj := am_cr) (mtj := mX0_lawOf) (dj := 1) (nj := 1) (rcj := 0) (rsj := 0) (rc' := 0) (rs' := 0) (ci := 0) (st' := fun a9 => (am_R a9 :: [])) ⟨_, rfl, rfl⟩ [am_I l1] [] dX0_give_2 okX0_lawOf lk_RX0_30 (fun zA zH zE => txX0_lawOf l0 l1 h zA zH zE) rfl (fun _ => rfl) (by decide) rfl (Nat.le_of_ble_eq_true rfl) (by decide) (by decide) (fun r1 h2 => ?_)
  refine am_astore (LL := fun y9 => [some (am_R l0), some (am_I l1), some (am_I l2), some (am_I l3), some (am_I l4), some (am_R y9), none, none, none]) dX0_give_5 (by decide) (fun _ => rfl) (fun q3 => ?_)
  refine am_iconst (v := 0) dX0_give_7 (by decide) ?_
  refine am_istore (LL := fun y9 => [some (am_R l0), some (am_I l1), some (am_I l2), some (am_I l3), some (am_I l4), some (am_R q3), some (am_I y9), none, none]) dX0_give_8 (by decide) (fun _ => rfl) (fun x4 => ?_)
  refine am_iconst (v := 0) dX0_give_10 (by decide) ?_
  refine am_istore (LL := fun y9 => [some (am_R l0), some (am_I l1), some (am_I l2), some (am_I l3), some (am_I l4), some (am_R q3), some (am_I x4), some (am_I y9), none]) dX0_give_11 (by decide) (fun _ => rfl) (fun x5 => ?_)
  exact am_weak (sxX0_give_b13 am_F l0 l2 l3 l4 q3 x4 x5 h2) ⟨rfl, ⟨rfl, ⟨rfl, ⟨rfl, ⟨rfl, ⟨rfl, ⟨rfl, trivial⟩⟩⟩⟩⟩⟩⟩ (Nat.le_refl _) (Nat.le_refl _)
theorem txX0_give {xs : List Int32} (l0 : Option Nat) (l1 : Int32) (l2 : Int32) (l3 : Int32) (l4 : Int32) (h : am_H) (a : Int32) (h2 : am_H) (e : fxX0_give l0 l1 l2 l3 l4 h = some (a, h2)) : am_Ct xs mX0_give 2 0 0 [am_R l0, am_I l1, am_I l2, am_I l3, am_I l4] h (fun v h3 => v = am_ci a ∧ h3 = h2) := am_meth okX0_give (Nat.le_of_ble_eq_true rfl) rfl (sxX0_give l0 l1 l2 l3 l4 h) e
theorem dX1_become_0 : am_at cX1_become 0 (.aload_n 0) 1 1 := by decide +kernel
theorem dX1_become_1 : am_at cX1_become 1 (.iload_n 1) 1 2 := by decide +kernel
theorem dX1_become_2 : am_at cX1_become 2 (.putfield 9) 3 5 := by decide +kernel
theorem dX1_become_5 : am_at cX1_become 5 (.aload_n 0) 1 6 := by decide +kernel
theorem dX1_become_6 : am_at cX1_become 6 (.iload_n 2) 1 7 := by decide +kernel
theorem dX1_become_7 : am_at cX1_become 7 (.putfield 15) 3 10 := by decide +kernel
theorem dX1_become_10 : am_at cX1_become 10 (.aload_n 0) 1 11 := by decide +kernel
theorem dX1_become_11 : am_at cX1_become 11 (.iload_n 3) 1 12 := by decide +kernel
theorem dX1_become_12 : am_at cX1_become 12 (.putfield 18) 3 15 := by decide +kernel
theorem dX1_become_15 : am_at cX1_become 15 (.aload_n 0) 1 16 := by decide +kernel
theorem dX1_become_16 : am_at cX1_become 16 (.iload 4) 2 18 := by decide +kernel
theorem dX1_become_18 : am_at cX1_become 18 (.putfield 21) 3 21 := by decide +kernel
theorem dX1_become_21 : am_at cX1_become 21 (.aload_n 0) 1 22 := by decide +kernel
theorem dX1_become_22 : am_at cX1_become 22 (.iconst 0) 1 23 := by decide +kernel
theorem dX1_become_23 : am_at cX1_become 23 (.putfield 24) 3 26 := by decide +kernel
theorem dX1_become_26 : am_at cX1_become 26 (.aload_n 0) 1 27 := by decide +kernel
theorem dX1_become_27 : am_at cX1_become 27 (.iconst 0) 1 28 := by decide +kernel
theorem dX1_become_28 : am_at cX1_become 28 (.putfield 27) 3 31 := by decide +kernel
theorem dX1_become_31 : am_at cX1_become 31 (.return_) 1 32 := by decide +kernel
def fxX1_become (l0 : Option Nat) (l1 : Int32) (l2 : Int32) (l3 : Int32) (l4 : Int32) (h : am_H) : Option (Unit × am_H) := am_gd (am_ob h l0 1) (am_lt (am_si h l0 0 l1) (fun h1 => am_gd (am_ob h1 l0 1) (am_lt (am_si h1 l0 1 l2) (fun h2 => am_gd (am_ob h2 l0 1) (am_lt (am_si h2 l0 2 l3) (fun h3 => am_gd (am_ob h3 l0 1) (am_lt (am_si h3 l0 3 l4) (fun h4 => am_gd (am_ob h4 l0 1) (am_lt (am_si h4 l0 4 (0 : Int32)) (fun h5 => am_gd (am_ob h5 l0 1 && am_bz (0 : Int32)) (am_lt (am_si h5 l0 5 (0 : Int32)) (fun h6 => some ((), h6)))))))))))))
set_option maxRecDepth 100000 in
theorem sxX1_become {xs : List Int32} (l0 : Option Nat) (l1 : Int32) (l2 : Int32) (l3 : Int32) (l4 : Int32) (h : am_H) : am_Sm xs am_cu mX1_become 0 0 0 0 [some (am_R l0), some (am_I l1), some (am_I l2), some (am_I l3), some (am_I l4)] [] h (fxX1_become l0 l1 l2 l3 l4 h) := by
  unfold fxX1_become
  refine am_aload_n dX1_become_0 rfl ?_
  refine am_iload_n dX1_become_1 rfl ?_
  refine am_putI dX1_become_2 fk_RX1_9 ⟨_, rfl, Or.inl rfl⟩ rfl (fun h1 => ?_)
  refine am_aload_n dX1_become_5 rfl ?_
  refine am_iload_n dX1_become_6 rfl ?_
  refine am_putI dX1_become_7 fk_RX1_15 ⟨_, rfl, Or.inl rfl⟩ rfl (fun h2 => ?_)
  refine am_aload_n dX1_become_10 rfl ?_
  refine am_iload_n dX1_become_11 rfl ?_
  refine am_putI dX1_become_12 fk_RX1_18 ⟨_, rfl, Or.inl rfl⟩ rfl (fun h3 => ?_)
  refine am_aload_n dX1_become_15 rfl ?_
  refine am_iload dX1_become_16 rfl ?_
  refine am_putI dX1_become_18 fk_RX1_21 ⟨_, rfl, Or.inl rfl⟩ rfl (fun h4 => ?_)
  refine am_aload_n dX1_become_21 rfl ?_
  refine am_iconst (v := 0) dX1_become_22 (by decide) ?_
  refine am_putI dX1_become_23 fk_RX1_24 ⟨_, rfl, Or.inl rfl⟩ rfl (fun h5 => ?_)
  refine am_aload_n dX1_become_26 rfl ?_
  refine am_iconst (v := 0) dX1_become_27 (by decide) ?_
  refine am_putZ dX1_become_28 fk_RX1_27 ⟨_, rfl, Or.inl rfl⟩ rfl (fun h6 => ?_)
  exact am_vret dX1_become_31 rfl rfl
theorem txX1_become {xs : List Int32} (l0 : Option Nat) (l1 : Int32) (l2 : Int32) (l3 : Int32) (l4 : Int32) (h : am_H) (a : Unit) (h2 : am_H) (e : fxX1_become l0 l1 l2 l3 l4 h = some (a, h2)) : am_Ct xs mX1_become 0 0 0 [am_R l0, am_I l1, am_I l2, am_I l3, am_I l4] h (fun v h3 => v = am_cu a ∧ h3 = h2) := am_meth okX1_become (Nat.le_of_ble_eq_true rfl) rfl (sxX1_become l0 l1 l2 l3 l4 h) e
theorem dX1_takeAfter_0 : am_at cX1_takeAfter 0 (.aload_n 0) 1 1 := by decide +kernel
theorem dX1_takeAfter_1 : am_at cX1_takeAfter 1 (.aload_n 1) 1 2 := by decide +kernel
theorem dX1_takeAfter_2 : am_at cX1_takeAfter 2 (.getfield 9) 3 5 := by decide +kernel
theorem dX1_takeAfter_5 : am_at cX1_takeAfter 5 (.aload_n 1) 1 6 := by decide +kernel
theorem dX1_takeAfter_6 : am_at cX1_takeAfter 6 (.getfield 15) 3 9 := by decide +kernel
theorem dX1_takeAfter_9 : am_at cX1_takeAfter 9 (.aload_n 1) 1 10 := by decide +kernel
theorem dX1_takeAfter_10 : am_at cX1_takeAfter 10 (.getfield 18) 3 13 := by decide +kernel
theorem dX1_takeAfter_13 : am_at cX1_takeAfter 13 (.aload_n 1) 1 14 := by decide +kernel
theorem dX1_takeAfter_14 : am_at cX1_takeAfter 14 (.getfield 21) 3 17 := by decide +kernel
theorem dX1_takeAfter_17 : am_at cX1_takeAfter 17 (.invokevirtual 31) 3 20 := by decide +kernel
theorem dX1_takeAfter_20 : am_at cX1_takeAfter 20 (.aload_n 0) 1 21 := by decide +kernel
theorem dX1_takeAfter_21 : am_at cX1_takeAfter 21 (.aload_n 1) 1 22 := by decide +kernel
theorem dX1_takeAfter_22 : am_at cX1_takeAfter 22 (.getfield 24) 3 25 := by decide +kernel
theorem dX1_takeAfter_25 : am_at cX1_takeAfter 25 (.putfield 24) 3 28 := by decide +kernel
theorem dX1_takeAfter_28 : am_at cX1_takeAfter 28 (.aload_n 0) 1 29 := by decide +kernel
theorem dX1_takeAfter_29 : am_at cX1_takeAfter 29 (.aload_n 1) 1 30 := by decide +kernel
theorem dX1_takeAfter_30 : am_at cX1_takeAfter 30 (.getfield 27) 3 33 := by decide +kernel
theorem dX1_takeAfter_33 : am_at cX1_takeAfter 33 (.putfield 27) 3 36 := by decide +kernel
theorem dX1_takeAfter_36 : am_at cX1_takeAfter 36 (.return_) 1 37 := by decide +kernel
def fxX1_takeAfter (l0 : Option Nat) (l1 : Option Nat) (h : am_H) : Option (Unit × am_H) := am_gd (am_ob h l1 1) (am_gd (am_ob h l1 1) (am_gd (am_ob h l1 1) (am_gd (am_ob h l1 1) (am_gd (am_ob h l0 1) (am_bd (fxX1_become l0 (am_gi h l1 0) (am_gi h l1 1) (am_gi h l1 2) (am_gi h l1 3) h) (fun _ h1 => am_gd (am_ob h1 l1 1) (am_gd (am_ob h1 l0 1) (am_lt (am_si h1 l0 4 (am_gi h1 l1 4)) (fun h2 => am_gd (am_ob h2 l1 1) (am_gd (am_ob h2 l0 1 && am_bz (am_gi h2 l1 5)) (am_lt (am_si h2 l0 5 (am_gi h2 l1 5)) (fun h3 => some ((), h3)))))))))))))
set_option maxRecDepth 100000 in
theorem sxX1_takeAfter {xs : List Int32} (l0 : Option Nat) (l1 : Option Nat) (h : am_H) : am_Sm xs am_cu mX1_takeAfter 1 0 0 0 [some (am_R l0), some (am_R l1)] [] h (fxX1_takeAfter l0 l1 h) := by
  unfold fxX1_takeAfter
  refine am_aload_n dX1_takeAfter_0 rfl ?_
  refine am_aload_n dX1_takeAfter_1 rfl ?_
  refine am_getI dX1_takeAfter_2 fk_RX1_9 rfl ?_
  refine am_aload_n dX1_takeAfter_5 rfl ?_
  refine am_getI dX1_takeAfter_6 fk_RX1_15 rfl ?_
  refine am_aload_n dX1_takeAfter_9 rfl ?_
  refine am_getI dX1_takeAfter_10 fk_RX1_18 rfl ?_
  refine am_aload_n dX1_takeAfter_13 rfl ?_
  refine am_getI dX1_takeAfter_14 fk_RX1_21 rfl ?_
  refine am_callV (cvj := am_cu) (mtj := mX1_become) (dj := 0) (nj := 4) (rcj := 0) (rsj := 0) (rc' := 0) (rs' := 0) (ci := 1) (st' := fun _ => []) ⟨_, rfl, rfl⟩ [am_I (am_gi h l1 0), am_I (am_gi h l1 1), am_I (am_gi h l1 2), am_I (am_gi h l1 3)] [] dX1_takeAfter_17 okX1_become lk_RX1_31 (fun zA zH zE => txX1_become l0 (am_gi h l1 0) (am_gi h l1 1) (am_gi h l1 2) (am_gi h l1 3) h zA zH zE) rfl (fun _ => rfl) (by decide) rfl (Nat.le_of_ble_eq_true rfl) (by decide) (by decide) (fun _ h1 => ?_)
  refine am_aload_n dX1_takeAfter_20 rfl ?_
  refine am_aload_n dX1_takeAfter_21 rfl ?_
  refine am_getI dX1_takeAfter_22 fk_RX1_24 rfl ?_
  refine am_putI dX1_takeAfter_25 fk_RX1_24 ⟨_, rfl, Or.inl rfl⟩ rfl (fun h2 => ?_)
  refine am_aload_n dX1_takeAfter_28 rfl ?_
  refine am_aload_n dX1_takeAfter_29 rfl ?_
  refine am_getI dX1_takeAfter_30 fk_RX1_27 rfl ?_
  refine am_putZ dX1_takeAfter_33 fk_RX1_27 ⟨_, rfl, Or.inl rfl⟩ rfl (fun h3 => ?_)
  exact am_vret dX1_takeAfter_36 rfl rfl
theorem txX1_takeAfter {xs : List Int32} (l0 : Option Nat) (l1 : Option Nat) (h : am_H) (a : Unit) (h2 : am_H) (e : fxX1_takeAfter l0 l1 h = some (a, h2)) : am_Ct xs mX1_takeAfter 1 0 0 [am_R l0, am_R l1] h (fun v h3 => v = am_cu a ∧ h3 = h2) := am_meth okX1_takeAfter (Nat.le_of_ble_eq_true rfl) rfl (sxX1_takeAfter l0 l1 h) e
theorem dX1_trait_0 : am_at cX1_trait 0 (.iload_n 1) 1 1 := by decide +kernel
theorem dX1_trait_1 : am_at cX1_trait 1 (.tableswitch 51 1 4 #[31, 36, 41, 46]) 31 32 := by decide +kernel
theorem dX1_trait_32 : am_at cX1_trait 32 (.aload_n 0) 1 33 := by decide +kernel
theorem dX1_trait_33 : am_at cX1_trait 33 (.getfield 15) 3 36 := by decide +kernel
theorem dX1_trait_36 : am_at cX1_trait 36 (.ireturn) 1 37 := by decide +kernel
theorem dX1_trait_37 : am_at cX1_trait 37 (.aload_n 0) 1 38 := by decide +kernel
theorem dX1_trait_38 : am_at cX1_trait 38 (.getfield 18) 3 41 := by decide +kernel
theorem dX1_trait_41 : am_at cX1_trait 41 (.ireturn) 1 42 := by decide +kernel
theorem dX1_trait_42 : am_at cX1_trait 42 (.aload_n 0) 1 43 := by decide +kernel
theorem dX1_trait_43 : am_at cX1_trait 43 (.getfield 21) 3 46 := by decide +kernel
theorem dX1_trait_46 : am_at cX1_trait 46 (.ireturn) 1 47 := by decide +kernel
theorem dX1_trait_47 : am_at cX1_trait 47 (.aload_n 0) 1 48 := by decide +kernel
theorem dX1_trait_48 : am_at cX1_trait 48 (.getfield 24) 3 51 := by decide +kernel
theorem dX1_trait_51 : am_at cX1_trait 51 (.ireturn) 1 52 := by decide +kernel
theorem dX1_trait_52 : am_at cX1_trait 52 (.aload_n 0) 1 53 := by decide +kernel
theorem dX1_trait_53 : am_at cX1_trait 53 (.getfield 27) 3 56 := by decide +kernel
theorem dX1_trait_56 : am_at cX1_trait 56 (.ifCond .eq 7) 3 59 := by decide +kernel
theorem dX1_trait_59 : am_at cX1_trait 59 (.iconst 1) 1 60 := by decide +kernel
theorem dX1_trait_60 : am_at cX1_trait 60 (.goto 4) 3 63 := by decide +kernel
theorem dX1_trait_63 : am_at cX1_trait 63 (.iconst 0) 1 64 := by decide +kernel
theorem dX1_trait_64 : am_at cX1_trait 64 (.ireturn) 1 65 := by decide +kernel
def fxX1_trait (l0 : Option Nat) (l1 : Int32) (h : am_H) : Option (Int32 × am_H) := if l1 = 1 then (am_gd (am_ob h l0 1) (some ((am_gi h l0 1), h))) else (if l1 = 2 then (am_gd (am_ob h l0 1) (some ((am_gi h l0 2), h))) else (if l1 = 3 then (am_gd (am_ob h l0 1) (some ((am_gi h l0 3), h))) else (if l1 = 4 then (am_gd (am_ob h l0 1) (some ((am_gi h l0 4), h))) else (am_gd (am_ob h l0 1) (if (am_gi h l0 5) = 0 then (some ((0 : Int32), h)) else (some ((1 : Int32), h)))))))
set_option maxRecDepth 100000 in
theorem sxX1_trait {xs : List Int32} (l0 : Option Nat) (l1 : Int32) (h : am_H) : am_Sm xs am_ci mX1_trait 0 0 0 0 [some (am_R l0), some (am_I l1)] [] h (fxX1_trait l0 l1 h) := by
  unfold fxX1_trait
  refine am_iload_n dX1_trait_0 rfl ?_
  refine am_table (cs := [(1, 32), (2, 37), (3, 42), (4, 47)]) (dt := 52) dX1_trait_1 (by decide +kernel) ?_
  refine am_sw_cons (fun c1 => ?_) (fun c1 => ?_)
  · refine am_aload_n dX1_trait_32 rfl ?_
    refine am_getI dX1_trait_33 fk_RX1_15 rfl ?_
    exact am_iret dX1_trait_36 rfl rfl
  refine am_sw_cons (fun c2 => ?_) (fun c2 => ?_)
  · refine am_aload_n dX1_trait_37 rfl ?_
    refine am_getI dX1_trait_38 fk_RX1_18 rfl ?_
    exact am_iret dX1_trait_41 rfl rfl
  refine am_sw_cons (fun c3 => ?_) (fun c3 => ?_)
  · refine am_aload_n dX1_trait_42 rfl ?_
    refine am_getI dX1_trait_43 fk_RX1_21 rfl ?_
    exact am_iret dX1_trait_46 rfl rfl
  refine am_sw_cons (fun c4 => ?_) (fun c4 => ?_)
  · refine am_aload_n dX1_trait_47 rfl ?_
    refine am_getI dX1_trait_48 fk_RX1_24 rfl ?_
    exact am_iret dX1_trait_51 rfl rfl
  refine am_sw_nil ?_
  refine am_aload_n dX1_trait_52 rfl ?_
  refine am_getI dX1_trait_53 fk_RX1_27 rfl ?_
  refine am_if_eq (tgt := 63) dX1_trait_56 (by decide) (fun c5 => ?_) (fun c5 => ?_)
  · refine am_iconst (v := 0) dX1_trait_63 (by decide) ?_
    exact am_iret dX1_trait_64 rfl rfl
  refine am_iconst (v := 1) dX1_trait_59 (by decide) ?_
  refine am_goto (tgt := 64) dX1_trait_60 (by decide) ?_
  exact am_iret dX1_trait_64 rfl rfl
theorem txX1_trait {xs : List Int32} (l0 : Option Nat) (l1 : Int32) (h : am_H) (a : Int32) (h2 : am_H) (e : fxX1_trait l0 l1 h = some (a, h2)) : am_Ct xs mX1_trait 0 0 0 [am_R l0, am_I l1] h (fun v h3 => v = am_ci a ∧ h3 = h2) := am_meth okX1_trait (Nat.le_of_ble_eq_true rfl) rfl (sxX1_trait l0 l1 h) e
theorem dX1_changeTrait_0 : am_at cX1_changeTrait 0 (.iload_n 1) 1 1 := by decide +kernel
theorem dX1_changeTrait_1 : am_at cX1_changeTrait 1 (.tableswitch 63 1 4 #[31, 39, 47, 55]) 31 32 := by decide +kernel
theorem dX1_changeTrait_32 : am_at cX1_changeTrait 32 (.aload_n 0) 1 33 := by decide +kernel
theorem dX1_changeTrait_33 : am_at cX1_changeTrait 33 (.iload_n 2) 1 34 := by decide +kernel
theorem dX1_changeTrait_34 : am_at cX1_changeTrait 34 (.putfield 15) 3 37 := by decide +kernel
theorem dX1_changeTrait_37 : am_at cX1_changeTrait 37 (.goto 41) 3 40 := by decide +kernel
theorem dX1_changeTrait_40 : am_at cX1_changeTrait 40 (.aload_n 0) 1 41 := by decide +kernel
theorem dX1_changeTrait_41 : am_at cX1_changeTrait 41 (.iload_n 2) 1 42 := by decide +kernel
theorem dX1_changeTrait_42 : am_at cX1_changeTrait 42 (.putfield 18) 3 45 := by decide +kernel
theorem dX1_changeTrait_45 : am_at cX1_changeTrait 45 (.goto 33) 3 48 := by decide +kernel
theorem dX1_changeTrait_48 : am_at cX1_changeTrait 48 (.aload_n 0) 1 49 := by decide +kernel
theorem dX1_changeTrait_49 : am_at cX1_changeTrait 49 (.iload_n 2) 1 50 := by decide +kernel
theorem dX1_changeTrait_50 : am_at cX1_changeTrait 50 (.putfield 21) 3 53 := by decide +kernel
theorem dX1_changeTrait_53 : am_at cX1_changeTrait 53 (.goto 25) 3 56 := by decide +kernel
theorem dX1_changeTrait_56 : am_at cX1_changeTrait 56 (.aload_n 0) 1 57 := by decide +kernel
theorem dX1_changeTrait_57 : am_at cX1_changeTrait 57 (.iload_n 2) 1 58 := by decide +kernel
theorem dX1_changeTrait_58 : am_at cX1_changeTrait 58 (.putfield 24) 3 61 := by decide +kernel
theorem dX1_changeTrait_61 : am_at cX1_changeTrait 61 (.goto 17) 3 64 := by decide +kernel
theorem dX1_changeTrait_64 : am_at cX1_changeTrait 64 (.aload_n 0) 1 65 := by decide +kernel
theorem dX1_changeTrait_65 : am_at cX1_changeTrait 65 (.iload_n 2) 1 66 := by decide +kernel
theorem dX1_changeTrait_66 : am_at cX1_changeTrait 66 (.iconst 1) 1 67 := by decide +kernel
theorem dX1_changeTrait_67 : am_at cX1_changeTrait 67 (.if_icmp .ne 7) 3 70 := by decide +kernel
theorem dX1_changeTrait_70 : am_at cX1_changeTrait 70 (.iconst 1) 1 71 := by decide +kernel
theorem dX1_changeTrait_71 : am_at cX1_changeTrait 71 (.goto 4) 3 74 := by decide +kernel
theorem dX1_changeTrait_74 : am_at cX1_changeTrait 74 (.iconst 0) 1 75 := by decide +kernel
theorem dX1_changeTrait_75 : am_at cX1_changeTrait 75 (.putfield 27) 3 78 := by decide +kernel
theorem dX1_changeTrait_78 : am_at cX1_changeTrait 78 (.return_) 1 79 := by decide +kernel
def fxX1_changeTrait_b75 (s0 : Int32) (s1 : Option Nat) (h : am_H) : Option (Unit × am_H) := am_gd (am_ob h s1 1 && am_bz s0) (am_lt (am_si h s1 5 s0) (fun h10 => some ((), h10)))
set_option maxRecDepth 100000 in
theorem sxX1_changeTrait_b75 {xs : List Int32} (s0 : Int32) (s1 : Option Nat) (h : am_H) : am_Sm xs am_cu mX1_changeTrait 0 0 0 75 [none, none, none] [am_I s0, am_R s1] h (fxX1_changeTrait_b75 s0 s1 h) := by
  unfold fxX1_changeTrait_b75
  refine am_putZ dX1_changeTrait_75 fk_RX1_27 ⟨_, rfl, Or.inl rfl⟩ rfl (fun h10 => ?_)
  exact am_vret dX1_changeTrait_78 rfl rfl
def fxX1_changeTrait (l0 : Option Nat) (l1 : Int32) (l2 : Int32) (h : am_H) : Option (Unit × am_H) := if l1 = 1 then (am_gd (am_ob h l0 1) (am_lt (am_si h l0 1 l2) (fun h1 => some ((), h1)))) else (if l1 = 2 then (am_gd (am_ob h l0 1) (am_lt (am_si h l0 2 l2) (fun h3 => some ((), h3)))) else (if l1 = 3 then (am_gd (am_ob h l0 1) (am_lt (am_si h l0 3 l2) (fun h5 => some ((), h5)))) else (if l1 = 4 then (am_gd (am_ob h l0 1) (am_lt (am_si h l0 4 l2) (fun h7 => some ((), h7)))) else (if l2 = (1 : Int32) then (fxX1_changeTrait_b75 (1 : Int32) l0 h) else (fxX1_changeTrait_b75 (0 : Int32) l0 h)))))
set_option maxRecDepth 100000 in
theorem sxX1_changeTrait {xs : List Int32} (l0 : Option Nat) (l1 : Int32) (l2 : Int32) (h : am_H) : am_Sm xs am_cu mX1_changeTrait 0 0 0 0 [some (am_R l0), some (am_I l1), some (am_I l2)] [] h (fxX1_changeTrait l0 l1 l2 h) := by
  unfold fxX1_changeTrait
  refine am_iload_n dX1_changeTrait_0 rfl ?_
  refine am_table (cs := [(1, 32), (2, 40), (3, 48), (4, 56)]) (dt := 64) dX1_changeTrait_1 (by decide +kernel) ?_
  refine am_sw_cons (fun c2 => ?_) (fun c2 => ?_)
  · refine am_aload_n dX1_changeTrait_32 rfl ?_
    refine am_iload_n dX1_changeTrait_33 rfl ?_
    refine am_putI dX1_changeTrait_34 fk_RX1_15 ⟨_, rfl, Or.inl rfl⟩ rfl (fun h1 => ?_)
    refine am_goto (tgt := 78) dX1_changeTrait_37 (by decide) ?_
    exact am_vret dX1_changeTrait_78 rfl rfl
  refine am_sw_cons (fun c4 => ?_) (fun c4 => ?_)
  · refine am_aload_n dX1_changeTrait_40 rfl ?_
    refine am_iload_n dX1_changeTrait_41 rfl ?_
    refine am_putI dX1_changeTrait_42 fk_RX1_18 ⟨_, rfl, Or.inl rfl⟩ rfl (fun h3 => ?_)
    refine am_goto (tgt := 78) dX1_changeTrait_45 (by decide) ?_
    exact am_vret dX1_changeTrait_78 rfl rfl
  refine am_sw_cons (fun c6 => ?_) (fun c6 => ?_)
  · refine am_aload_n dX1_changeTrait_48 rfl ?_
    refine am_iload_n dX1_changeTrait_49 rfl ?_
    refine am_putI dX1_changeTrait_50 fk_RX1_21 ⟨_, rfl, Or.inl rfl⟩ rfl (fun h5 => ?_)
    refine am_goto (tgt := 78) dX1_changeTrait_53 (by decide) ?_
    exact am_vret dX1_changeTrait_78 rfl rfl
  refine am_sw_cons (fun c8 => ?_) (fun c8 => ?_)
  · refine am_aload_n dX1_changeTrait_56 rfl ?_
    refine am_iload_n dX1_changeTrait_57 rfl ?_
    refine am_putI dX1_changeTrait_58 fk_RX1_24 ⟨_, rfl, Or.inl rfl⟩ rfl (fun h7 => ?_)
    refine am_goto (tgt := 78) dX1_changeTrait_61 (by decide) ?_
    exact am_vret dX1_changeTrait_78 rfl rfl
  refine am_sw_nil ?_
  refine am_aload_n dX1_changeTrait_64 rfl ?_
  refine am_iload_n dX1_changeTrait_65 rfl ?_
  refine am_iconst (v := 1) dX1_changeTrait_66 (by decide) ?_
  refine am_icmp_ne (tgt := 74) dX1_changeTrait_67 (by decide) (fun c9 => ?_) (fun c9 => ?_)
  · refine am_iconst (v := 0) dX1_changeTrait_74 (by decide) ?_
    exact am_weak (sxX1_changeTrait_b75 (0 : Int32) l0 h) trivial (Nat.le_refl _) (Nat.le_refl _)
  refine am_iconst (v := 1) dX1_changeTrait_70 (by decide) ?_
  refine am_goto (tgt := 75) dX1_changeTrait_71 (by decide) ?_
  exact am_weak (sxX1_changeTrait_b75 (1 : Int32) l0 h) trivial (Nat.le_refl _) (Nat.le_refl _)
theorem txX1_changeTrait {xs : List Int32} (l0 : Option Nat) (l1 : Int32) (l2 : Int32) (h : am_H) (a : Unit) (h2 : am_H) (e : fxX1_changeTrait l0 l1 l2 h = some (a, h2)) : am_Ct xs mX1_changeTrait 0 0 0 [am_R l0, am_I l1, am_I l2] h (fun v h3 => v = am_cu a ∧ h3 = h2) := am_meth okX1_changeTrait (Nat.le_of_ble_eq_true rfl) rfl (sxX1_changeTrait l0 l1 l2 h) e
theorem dX9_isKind_0 : am_at cX9_isKind 0 (.iload_n 0) 1 1 := by decide +kernel
theorem dX9_isKind_1 : am_at cX9_isKind 1 (.iconst 0) 1 2 := by decide +kernel
theorem dX9_isKind_2 : am_at cX9_isKind 2 (.iconst 5) 1 3 := by decide +kernel
theorem dX9_isKind_3 : am_at cX9_isKind 3 (.invokestatic 80) 3 6 := by decide +kernel
theorem dX9_isKind_6 : am_at cX9_isKind 6 (.ireturn) 1 7 := by decide +kernel
def fxX9_isKind (l0 : Int32) (h : am_H) : Option (Int32 × am_H) := am_bd (fxX9_within l0 (0 : Int32) (5 : Int32) h) (fun r1 h2 => am_gd (am_bz r1) (some (r1, h2)))
set_option maxRecDepth 100000 in
theorem sxX9_isKind {xs : List Int32} (l0 : Int32) (h : am_H) : am_Sm xs am_ci mX9_isKind 1 0 0 0 [some (am_I l0)] [] h (fxX9_isKind l0 h) := by
  unfold fxX9_isKind
  refine am_iload_n dX9_isKind_0 rfl ?_
  refine am_iconst (v := 0) dX9_isKind_1 (by decide) ?_
  refine am_iconst (v := 5) dX9_isKind_2 (by decide) ?_
  refine am_callS (cvj := am_ci) (mtj := mX9_within) (dj := 0) (nj := 3) (rcj := 0) (rsj := 0) (rc' := 0) (rs' := 0) (st' := fun a9 => (am_I a9 :: [])) [am_I l0, am_I (0 : Int32), am_I (5 : Int32)] [] dX9_isKind_3 okX9_within lk_RX9_80 (fun zA zH zE => txX9_within l0 (0 : Int32) (5 : Int32) h zA zH zE) rfl (fun _ => rfl) (by decide) rfl (Nat.le_of_ble_eq_true rfl) (by decide) (by decide) (fun r1 h2 => ?_)
  exact am_zret dX9_isKind_6 rfl rfl
theorem txX9_isKind {xs : List Int32} (l0 : Int32) (h : am_H) (a : Int32) (h2 : am_H) (e : fxX9_isKind l0 h = some (a, h2)) : am_Ct xs mX9_isKind 1 0 0 [am_I l0] h (fun v h3 => v = am_ci a ∧ h3 = h2) := am_meth okX9_isKind (Nat.le_of_ble_eq_true rfl) rfl (sxX9_isKind l0 h) e
theorem dX1_isOf_0 : am_at cX1_isOf 0 (.aload_n 0) 1 1 := by decide +kernel
theorem dX1_isOf_1 : am_at cX1_isOf 1 (.getfield 9) 3 4 := by decide +kernel
theorem dX1_isOf_4 : am_at cX1_isOf 4 (.istore_n 2) 1 5 := by decide +kernel
theorem dX1_isOf_5 : am_at cX1_isOf 5 (.iconst 0) 1 6 := by decide +kernel
theorem dX1_isOf_6 : am_at cX1_isOf 6 (.istore_n 3) 1 7 := by decide +kernel
theorem dX1_isOf_7 : am_at cX1_isOf 7 (.iload_n 3) 1 8 := by decide +kernel
theorem dX1_isOf_8 : am_at cX1_isOf 8 (.bipush 6) 2 10 := by decide +kernel
theorem dX1_isOf_10 : am_at cX1_isOf 10 (.if_icmp .ge 29) 3 13 := by decide +kernel
theorem dX1_isOf_13 : am_at cX1_isOf 13 (.iload_n 2) 1 14 := by decide +kernel
theorem dX1_isOf_14 : am_at cX1_isOf 14 (.invokestatic 35) 3 17 := by decide +kernel
theorem dX1_isOf_17 : am_at cX1_isOf 17 (.ifCond .eq 22) 3 20 := by decide +kernel
theorem dX1_isOf_20 : am_at cX1_isOf 20 (.iload_n 2) 1 21 := by decide +kernel
theorem dX1_isOf_21 : am_at cX1_isOf 21 (.iload_n 1) 1 22 := by decide +kernel
theorem dX1_isOf_22 : am_at cX1_isOf 22 (.if_icmp .ne 5) 3 25 := by decide +kernel
theorem dX1_isOf_25 : am_at cX1_isOf 25 (.iconst 1) 1 26 := by decide +kernel
theorem dX1_isOf_26 : am_at cX1_isOf 26 (.ireturn) 1 27 := by decide +kernel
theorem dX1_isOf_27 : am_at cX1_isOf 27 (.getstatic 39) 3 30 := by decide +kernel
theorem dX1_isOf_30 : am_at cX1_isOf 30 (.iload_n 2) 1 31 := by decide +kernel
theorem dX1_isOf_31 : am_at cX1_isOf 31 (.iaload) 1 32 := by decide +kernel
theorem dX1_isOf_32 : am_at cX1_isOf 32 (.istore_n 2) 1 33 := by decide +kernel
theorem dX1_isOf_33 : am_at cX1_isOf 33 (.iinc 3 1) 3 36 := by decide +kernel
theorem dX1_isOf_36 : am_at cX1_isOf 36 (.goto (-29)) 3 39 := by decide +kernel
theorem dX1_isOf_39 : am_at cX1_isOf 39 (.iconst 0) 1 40 := by decide +kernel
theorem dX1_isOf_40 : am_at cX1_isOf 40 (.ireturn) 1 41 := by decide +kernel
def fxX1_isOf_b7 : Nat → Int32 → Int32 → Int32 → am_H → Option (Int32 × am_H)
  | 0, _, _, _, _ => none
  | n + 1, l1, l2, l3, h => if (6 : Int32) ≤ l3 then (am_gd (am_bz (0 : Int32)) (some ((0 : Int32), h))) else (am_bd (fxX9_isKind l2 h) (fun r3 h4 => if r3 = 0 then (am_gd (am_bz (0 : Int32)) (some ((0 : Int32), h4))) else (if l2 = l1 then (am_gd (am_bz (1 : Int32)) (some ((1 : Int32), h4))) else (am_gd (am_in l2 (am_kc [] 0).length) (am_lt ((am_kc [] 0).getD l2.toNatClampNeg 0) (fun x5 => am_lt (l3 + 1) (fun x6 => fxX1_isOf_b7 n l1 x5 x6 h4)))))))
set_option maxRecDepth 100000 in
theorem sxX1_isOf_b7 {xs : List Int32} : ∀ (n : Nat) (l1 : Int32) (l2 : Int32) (l3 : Int32) (h : am_H), am_Sm xs am_ci mX1_isOf 2 0 0 7 [none, some (am_I l1), some (am_I l2), some (am_I l3)] [] h (fxX1_isOf_b7 n l1 l2 l3 h) := by
  intro n
  induction n with
  | zero => intros; exact am_none
  | succ n ih =>
    intro l1 l2 l3 h
    rw [fxX1_isOf_b7]
    refine am_iload_n dX1_isOf_7 rfl ?_
    refine am_bipush (v := 6) dX1_isOf_8 (by decide) ?_
    refine am_icmp_ge (tgt := 39) dX1_isOf_10 (by decide) (fun c9 => ?_) (fun c9 => ?_)
    · refine am_iconst (v := 0) dX1_isOf_39 (by decide) ?_
      exact am_zret dX1_isOf_40 rfl rfl
    refine am_iload_n dX1_isOf_13 rfl ?_
    refine am_callS (cvj := am_ci) (mtj := mX9_isKind) (dj := 1) (nj := 1) (rcj := 0) (rsj := 0) (rc' := 0) (rs' := 0) (st' := fun a9 => (am_I a9 :: [])) [am_I l2] [] dX1_isOf_14 okX9_isKind lk_RX1_35 (fun zA zH zE => txX9_isKind l2 h zA zH zE) rfl (fun _ => rfl) (by decide) rfl (Nat.le_of_ble_eq_true rfl) (by decide) (by decide) (fun r3 h4 => ?_)
    refine am_if_eq (tgt := 39) dX1_isOf_17 (by decide) (fun c8 => ?_) (fun c8 => ?_)
    · refine am_iconst (v := 0) dX1_isOf_39 (by decide) ?_
      exact am_zret dX1_isOf_40 rfl rfl
    refine am_iload_n dX1_isOf_20 rfl ?_
    refine am_iload_n dX1_isOf_21 rfl ?_
    refine am_icmp_ne (tgt := 27) dX1_isOf_22 (by decide) (fun c7 => ?_) (fun c7 => ?_)
    · refine am_gsKind dX1_isOf_27 rfl ?_
      refine am_iload_n dX1_isOf_30 rfl ?_
      refine am_kald dX1_isOf_31 (Or.inl rfl) ?_
      refine am_istore_n (LL := fun y9 => [none, some (am_I l1), some (am_I y9), some (am_I l3)]) dX1_isOf_32 (by decide) (fun _ => rfl) (fun x5 => ?_)
      refine am_iinc (v := 1) (LL := fun y9 => [none, some (am_I l1), some (am_I x5), some (am_I y9)]) dX1_isOf_33 (by decide) rfl (by decide) (fun _ => rfl) (fun x6 => ?_)
      refine am_goto (tgt := 7) dX1_isOf_36 (by decide) ?_
      exact am_weak (ih l1 x5 x6 h4) ⟨rfl, ⟨rfl, ⟨rfl, trivial⟩⟩⟩ (Nat.le_refl _) (Nat.le_refl _)
    refine am_iconst (v := 1) dX1_isOf_25 (by decide) ?_
    exact am_zret dX1_isOf_26 rfl rfl
def fxX1_isOf (l0 : Option Nat) (l1 : Int32) (h : am_H) : Option (Int32 × am_H) := am_gd (am_ob h l0 1) (am_lt (am_gi h l0 0) (fun x1 => am_lt (0 : Int32) (fun x2 => fxX1_isOf_b7 am_F l1 x1 x2 h)))
set_option maxRecDepth 100000 in
theorem sxX1_isOf {xs : List Int32} (l0 : Option Nat) (l1 : Int32) (h : am_H) : am_Sm xs am_ci mX1_isOf 2 0 0 0 [some (am_R l0), some (am_I l1), none, none] [] h (fxX1_isOf l0 l1 h) := by
  unfold fxX1_isOf
  refine am_aload_n dX1_isOf_0 rfl ?_
  refine am_getI dX1_isOf_1 fk_RX1_9 rfl ?_
  refine am_istore_n (LL := fun y9 => [some (am_R l0), some (am_I l1), some (am_I y9), none]) dX1_isOf_4 (by decide) (fun _ => rfl) (fun x1 => ?_)
  refine am_iconst (v := 0) dX1_isOf_5 (by decide) ?_
  refine am_istore_n (LL := fun y9 => [some (am_R l0), some (am_I l1), some (am_I x1), some (am_I y9)]) dX1_isOf_6 (by decide) (fun _ => rfl) (fun x2 => ?_)
  exact am_weak (sxX1_isOf_b7 am_F l1 x1 x2 h) ⟨rfl, ⟨rfl, ⟨rfl, trivial⟩⟩⟩ (Nat.le_refl _) (Nat.le_refl _)
theorem txX1_isOf {xs : List Int32} (l0 : Option Nat) (l1 : Int32) (h : am_H) (a : Int32) (h2 : am_H) (e : fxX1_isOf l0 l1 h = some (a, h2)) : am_Ct xs mX1_isOf 2 0 0 [am_R l0, am_I l1] h (fun v h3 => v = am_ci a ∧ h3 = h2) := am_meth okX1_isOf (Nat.le_of_ble_eq_true rfl) rfl (sxX1_isOf l0 l1 h) e
theorem dX1_worth_0 : am_at cX1_worth 0 (.aload_n 0) 1 1 := by decide +kernel
theorem dX1_worth_1 : am_at cX1_worth 1 (.getfield 9) 3 4 := by decide +kernel
theorem dX1_worth_4 : am_at cX1_worth 4 (.tableswitch 73 1 5 #[36, 52, 43, 60, 70]) 36 40 := by decide +kernel
theorem dX1_worth_40 : am_at cX1_worth 40 (.aload_n 0) 1 41 := by decide +kernel
theorem dX1_worth_41 : am_at cX1_worth 41 (.getfield 21) 3 44 := by decide +kernel
theorem dX1_worth_44 : am_at cX1_worth 44 (.iconst 5) 1 45 := by decide +kernel
theorem dX1_worth_45 : am_at cX1_worth 45 (.iadd) 1 46 := by decide +kernel
theorem dX1_worth_46 : am_at cX1_worth 46 (.ireturn) 1 47 := by decide +kernel
theorem dX1_worth_47 : am_at cX1_worth 47 (.iconst 2) 1 48 := by decide +kernel
theorem dX1_worth_48 : am_at cX1_worth 48 (.aload_n 0) 1 49 := by decide +kernel
theorem dX1_worth_49 : am_at cX1_worth 49 (.getfield 21) 3 52 := by decide +kernel
theorem dX1_worth_52 : am_at cX1_worth 52 (.iconst 5) 1 53 := by decide +kernel
theorem dX1_worth_53 : am_at cX1_worth 53 (.iadd) 1 54 := by decide +kernel
theorem dX1_worth_54 : am_at cX1_worth 54 (.imul) 1 55 := by decide +kernel
theorem dX1_worth_55 : am_at cX1_worth 55 (.ireturn) 1 56 := by decide +kernel
theorem dX1_worth_56 : am_at cX1_worth 56 (.bipush 99) 2 58 := by decide +kernel
theorem dX1_worth_58 : am_at cX1_worth 58 (.aload_n 0) 1 59 := by decide +kernel
theorem dX1_worth_59 : am_at cX1_worth 59 (.getfield 21) 3 62 := by decide +kernel
theorem dX1_worth_62 : am_at cX1_worth 62 (.isub) 1 63 := by decide +kernel
theorem dX1_worth_63 : am_at cX1_worth 63 (.ireturn) 1 64 := by decide +kernel
theorem dX1_worth_64 : am_at cX1_worth 64 (.bipush 99) 2 66 := by decide +kernel
theorem dX1_worth_66 : am_at cX1_worth 66 (.aload_n 0) 1 67 := by decide +kernel
theorem dX1_worth_67 : am_at cX1_worth 67 (.getfield 21) 3 70 := by decide +kernel
theorem dX1_worth_70 : am_at cX1_worth 70 (.isub) 1 71 := by decide +kernel
theorem dX1_worth_71 : am_at cX1_worth 71 (.iconst 3) 1 72 := by decide +kernel
theorem dX1_worth_72 : am_at cX1_worth 72 (.isub) 1 73 := by decide +kernel
theorem dX1_worth_73 : am_at cX1_worth 73 (.ireturn) 1 74 := by decide +kernel
theorem dX1_worth_74 : am_at cX1_worth 74 (.bipush 8) 2 76 := by decide +kernel
theorem dX1_worth_76 : am_at cX1_worth 76 (.ireturn) 1 77 := by decide +kernel
theorem dX1_worth_77 : am_at cX1_worth 77 (.aload_n 0) 1 78 := by decide +kernel
theorem dX1_worth_78 : am_at cX1_worth 78 (.getfield 21) 3 81 := by decide +kernel
theorem dX1_worth_81 : am_at cX1_worth 81 (.ireturn) 1 82 := by decide +kernel
def fxX1_worth (l0 : Option Nat) (h : am_H) : Option (Int32 × am_H) := am_gd (am_ob h l0 1) (if (am_gi h l0 0) = 1 then (am_gd (am_ob h l0 1) (some (((am_gi h l0 3) + (5 : Int32)), h))) else (if (am_gi h l0 0) = 2 then (am_gd (am_ob h l0 1) (some (((99 : Int32) - (am_gi h l0 3)), h))) else (if (am_gi h l0 0) = 3 then (am_gd (am_ob h l0 1) (some (((2 : Int32) * ((am_gi h l0 3) + (5 : Int32))), h))) else (if (am_gi h l0 0) = 4 then (am_gd (am_ob h l0 1) (some ((((99 : Int32) - (am_gi h l0 3)) - (3 : Int32)), h))) else (if (am_gi h l0 0) = 5 then (some ((8 : Int32), h)) else (am_gd (am_ob h l0 1) (some ((am_gi h l0 3), h))))))))
set_option maxRecDepth 100000 in
theorem sxX1_worth {xs : List Int32} (l0 : Option Nat) (h : am_H) : am_Sm xs am_ci mX1_worth 0 0 0 0 [some (am_R l0)] [] h (fxX1_worth l0 h) := by
  unfold fxX1_worth
  refine am_aload_n dX1_worth_0 rfl ?_
  refine am_getI dX1_worth_1 fk_RX1_9 rfl ?_
  refine am_table (cs := [(1, 40), (2, 56), (3, 47), (4, 64), (5, 74)]) (dt := 77) dX1_worth_4 (by decide +kernel) ?_
  refine am_sw_cons (fun c1 => ?_) (fun c1 => ?_)
  · refine am_aload_n dX1_worth_40 rfl ?_
    refine am_getI dX1_worth_41 fk_RX1_21 rfl ?_
    refine am_iconst (v := 5) dX1_worth_44 (by decide) ?_
    refine am_iadd dX1_worth_45 ?_
    exact am_iret dX1_worth_46 rfl rfl
  refine am_sw_cons (fun c2 => ?_) (fun c2 => ?_)
  · refine am_bipush (v := 99) dX1_worth_56 (by decide) ?_
    refine am_aload_n dX1_worth_58 rfl ?_
    refine am_getI dX1_worth_59 fk_RX1_21 rfl ?_
    refine am_isub dX1_worth_62 ?_
    exact am_iret dX1_worth_63 rfl rfl
  refine am_sw_cons (fun c3 => ?_) (fun c3 => ?_)
  · refine am_iconst (v := 2) dX1_worth_47 (by decide) ?_
    refine am_aload_n dX1_worth_48 rfl ?_
    refine am_getI dX1_worth_49 fk_RX1_21 rfl ?_
    refine am_iconst (v := 5) dX1_worth_52 (by decide) ?_
    refine am_iadd dX1_worth_53 ?_
    refine am_imul dX1_worth_54 ?_
    exact am_iret dX1_worth_55 rfl rfl
  refine am_sw_cons (fun c4 => ?_) (fun c4 => ?_)
  · refine am_bipush (v := 99) dX1_worth_64 (by decide) ?_
    refine am_aload_n dX1_worth_66 rfl ?_
    refine am_getI dX1_worth_67 fk_RX1_21 rfl ?_
    refine am_isub dX1_worth_70 ?_
    refine am_iconst (v := 3) dX1_worth_71 (by decide) ?_
    refine am_isub dX1_worth_72 ?_
    exact am_iret dX1_worth_73 rfl rfl
  refine am_sw_cons (fun c5 => ?_) (fun c5 => ?_)
  · refine am_bipush (v := 8) dX1_worth_74 (by decide) ?_
    exact am_iret dX1_worth_76 rfl rfl
  refine am_sw_nil ?_
  refine am_aload_n dX1_worth_77 rfl ?_
  refine am_getI dX1_worth_78 fk_RX1_21 rfl ?_
  exact am_iret dX1_worth_81 rfl rfl
theorem txX1_worth {xs : List Int32} (l0 : Option Nat) (h : am_H) (a : Int32) (h2 : am_H) (e : fxX1_worth l0 h = some (a, h2)) : am_Ct xs mX1_worth 0 0 0 [am_R l0] h (fun v h3 => v = am_ci a ∧ h3 = h2) := am_meth okX1_worth (Nat.le_of_ble_eq_true rfl) rfl (sxX1_worth l0 h) e
theorem dX1_suitsAsLined_0 : am_at cX1_suitsAsLined 0 (.aload_n 0) 1 1 := by decide +kernel
theorem dX1_suitsAsLined_1 : am_at cX1_suitsAsLined 1 (.getfield 18) 3 4 := by decide +kernel
theorem dX1_suitsAsLined_4 : am_at cX1_suitsAsLined 4 (.aload_n 1) 1 5 := by decide +kernel
theorem dX1_suitsAsLined_5 : am_at cX1_suitsAsLined 5 (.getfield 18) 3 8 := by decide +kernel
theorem dX1_suitsAsLined_8 : am_at cX1_suitsAsLined 8 (.if_icmp .ne 25) 3 11 := by decide +kernel
theorem dX1_suitsAsLined_11 : am_at cX1_suitsAsLined 11 (.aload_n 0) 1 12 := by decide +kernel
theorem dX1_suitsAsLined_12 : am_at cX1_suitsAsLined 12 (.getfield 24) 3 15 := by decide +kernel
theorem dX1_suitsAsLined_15 : am_at cX1_suitsAsLined 15 (.bipush 50) 2 17 := by decide +kernel
theorem dX1_suitsAsLined_17 : am_at cX1_suitsAsLined 17 (.if_icmp .ge 16) 3 20 := by decide +kernel
theorem dX1_suitsAsLined_20 : am_at cX1_suitsAsLined 20 (.aload_n 1) 1 21 := by decide +kernel
theorem dX1_suitsAsLined_21 : am_at cX1_suitsAsLined 21 (.getfield 24) 3 24 := by decide +kernel
theorem dX1_suitsAsLined_24 : am_at cX1_suitsAsLined 24 (.bipush 50) 2 26 := by decide +kernel
theorem dX1_suitsAsLined_26 : am_at cX1_suitsAsLined 26 (.if_icmp .ge 7) 3 29 := by decide +kernel
theorem dX1_suitsAsLined_29 : am_at cX1_suitsAsLined 29 (.iconst 1) 1 30 := by decide +kernel
theorem dX1_suitsAsLined_30 : am_at cX1_suitsAsLined 30 (.goto 4) 3 33 := by decide +kernel
theorem dX1_suitsAsLined_33 : am_at cX1_suitsAsLined 33 (.iconst 0) 1 34 := by decide +kernel
theorem dX1_suitsAsLined_34 : am_at cX1_suitsAsLined 34 (.ireturn) 1 35 := by decide +kernel
def fxX1_suitsAsLined (l0 : Option Nat) (l1 : Option Nat) (h : am_H) : Option (Int32 × am_H) := am_gd (am_ob h l0 1) (am_gd (am_ob h l1 1) (if (am_gi h l0 2) = (am_gi h l1 2) then (am_gd (am_ob h l0 1) (if (50 : Int32) ≤ (am_gi h l0 4) then (am_gd (am_bz (0 : Int32)) (some ((0 : Int32), h))) else (am_gd (am_ob h l1 1) (if (50 : Int32) ≤ (am_gi h l1 4) then (am_gd (am_bz (0 : Int32)) (some ((0 : Int32), h))) else (am_gd (am_bz (1 : Int32)) (some ((1 : Int32), h))))))) else (am_gd (am_bz (0 : Int32)) (some ((0 : Int32), h)))))
set_option maxRecDepth 100000 in
theorem sxX1_suitsAsLined {xs : List Int32} (l0 : Option Nat) (l1 : Option Nat) (h : am_H) : am_Sm xs am_ci mX1_suitsAsLined 0 0 0 0 [some (am_R l0), some (am_R l1)] [] h (fxX1_suitsAsLined l0 l1 h) := by
  unfold fxX1_suitsAsLined
  refine am_aload_n dX1_suitsAsLined_0 rfl ?_
  refine am_getI dX1_suitsAsLined_1 fk_RX1_18 rfl ?_
  refine am_aload_n dX1_suitsAsLined_4 rfl ?_
  refine am_getI dX1_suitsAsLined_5 fk_RX1_18 rfl ?_
  refine am_icmp_ne (tgt := 33) dX1_suitsAsLined_8 (by decide) (fun c3 => ?_) (fun c3 => ?_)
  · refine am_iconst (v := 0) dX1_suitsAsLined_33 (by decide) ?_
    exact am_zret dX1_suitsAsLined_34 rfl rfl
  refine am_aload_n dX1_suitsAsLined_11 rfl ?_
  refine am_getI dX1_suitsAsLined_12 fk_RX1_24 rfl ?_
  refine am_bipush (v := 50) dX1_suitsAsLined_15 (by decide) ?_
  refine am_icmp_ge (tgt := 33) dX1_suitsAsLined_17 (by decide) (fun c2 => ?_) (fun c2 => ?_)
  · refine am_iconst (v := 0) dX1_suitsAsLined_33 (by decide) ?_
    exact am_zret dX1_suitsAsLined_34 rfl rfl
  refine am_aload_n dX1_suitsAsLined_20 rfl ?_
  refine am_getI dX1_suitsAsLined_21 fk_RX1_24 rfl ?_
  refine am_bipush (v := 50) dX1_suitsAsLined_24 (by decide) ?_
  refine am_icmp_ge (tgt := 33) dX1_suitsAsLined_26 (by decide) (fun c1 => ?_) (fun c1 => ?_)
  · refine am_iconst (v := 0) dX1_suitsAsLined_33 (by decide) ?_
    exact am_zret dX1_suitsAsLined_34 rfl rfl
  refine am_iconst (v := 1) dX1_suitsAsLined_29 (by decide) ?_
  refine am_goto (tgt := 34) dX1_suitsAsLined_30 (by decide) ?_
  exact am_zret dX1_suitsAsLined_34 rfl rfl
theorem txX1_suitsAsLined {xs : List Int32} (l0 : Option Nat) (l1 : Option Nat) (h : am_H) (a : Int32) (h2 : am_H) (e : fxX1_suitsAsLined l0 l1 h = some (a, h2)) : am_Ct xs mX1_suitsAsLined 0 0 0 [am_R l0, am_R l1] h (fun v h3 => v = am_ci a ∧ h3 = h2) := am_meth okX1_suitsAsLined (Nat.le_of_ble_eq_true rfl) rfl (sxX1_suitsAsLined l0 l1 h) e
theorem dX1_suitsAsLoose_0 : am_at cX1_suitsAsLoose 0 (.aload_n 0) 1 1 := by decide +kernel
theorem dX1_suitsAsLoose_1 : am_at cX1_suitsAsLoose 1 (.getfield 18) 3 4 := by decide +kernel
theorem dX1_suitsAsLoose_4 : am_at cX1_suitsAsLoose 4 (.aload_n 1) 1 5 := by decide +kernel
theorem dX1_suitsAsLoose_5 : am_at cX1_suitsAsLoose 5 (.getfield 18) 3 8 := by decide +kernel
theorem dX1_suitsAsLoose_8 : am_at cX1_suitsAsLoose 8 (.isub) 1 9 := by decide +kernel
theorem dX1_suitsAsLoose_9 : am_at cX1_suitsAsLoose 9 (.iconst 1) 1 10 := by decide +kernel
theorem dX1_suitsAsLoose_10 : am_at cX1_suitsAsLoose 10 (.if_icmp .gt 20) 3 13 := by decide +kernel
theorem dX1_suitsAsLoose_13 : am_at cX1_suitsAsLoose 13 (.aload_n 1) 1 14 := by decide +kernel
theorem dX1_suitsAsLoose_14 : am_at cX1_suitsAsLoose 14 (.getfield 18) 3 17 := by decide +kernel
theorem dX1_suitsAsLoose_17 : am_at cX1_suitsAsLoose 17 (.aload_n 0) 1 18 := by decide +kernel
theorem dX1_suitsAsLoose_18 : am_at cX1_suitsAsLoose 18 (.getfield 18) 3 21 := by decide +kernel
theorem dX1_suitsAsLoose_21 : am_at cX1_suitsAsLoose 21 (.isub) 1 22 := by decide +kernel
theorem dX1_suitsAsLoose_22 : am_at cX1_suitsAsLoose 22 (.iconst 1) 1 23 := by decide +kernel
theorem dX1_suitsAsLoose_23 : am_at cX1_suitsAsLoose 23 (.if_icmp .gt 7) 3 26 := by decide +kernel
theorem dX1_suitsAsLoose_26 : am_at cX1_suitsAsLoose 26 (.iconst 1) 1 27 := by decide +kernel
theorem dX1_suitsAsLoose_27 : am_at cX1_suitsAsLoose 27 (.goto 4) 3 30 := by decide +kernel
theorem dX1_suitsAsLoose_30 : am_at cX1_suitsAsLoose 30 (.iconst 0) 1 31 := by decide +kernel
theorem dX1_suitsAsLoose_31 : am_at cX1_suitsAsLoose 31 (.ireturn) 1 32 := by decide +kernel
def fxX1_suitsAsLoose (l0 : Option Nat) (l1 : Option Nat) (h : am_H) : Option (Int32 × am_H) := am_gd (am_ob h l0 1) (am_gd (am_ob h l1 1) (if (1 : Int32) < ((am_gi h l0 2) - (am_gi h l1 2)) then (am_gd (am_bz (0 : Int32)) (some ((0 : Int32), h))) else (am_gd (am_ob h l1 1) (am_gd (am_ob h l0 1) (if (1 : Int32) < ((am_gi h l1 2) - (am_gi h l0 2)) then (am_gd (am_bz (0 : Int32)) (some ((0 : Int32), h))) else (am_gd (am_bz (1 : Int32)) (some ((1 : Int32), h))))))))
set_option maxRecDepth 100000 in
theorem sxX1_suitsAsLoose {xs : List Int32} (l0 : Option Nat) (l1 : Option Nat) (h : am_H) : am_Sm xs am_ci mX1_suitsAsLoose 0 0 0 0 [some (am_R l0), some (am_R l1)] [] h (fxX1_suitsAsLoose l0 l1 h) := by
  unfold fxX1_suitsAsLoose
  refine am_aload_n dX1_suitsAsLoose_0 rfl ?_
  refine am_getI dX1_suitsAsLoose_1 fk_RX1_18 rfl ?_
  refine am_aload_n dX1_suitsAsLoose_4 rfl ?_
  refine am_getI dX1_suitsAsLoose_5 fk_RX1_18 rfl ?_
  refine am_isub dX1_suitsAsLoose_8 ?_
  refine am_iconst (v := 1) dX1_suitsAsLoose_9 (by decide) ?_
  refine am_icmp_gt (tgt := 30) dX1_suitsAsLoose_10 (by decide) (fun c2 => ?_) (fun c2 => ?_)
  · refine am_iconst (v := 0) dX1_suitsAsLoose_30 (by decide) ?_
    exact am_zret dX1_suitsAsLoose_31 rfl rfl
  refine am_aload_n dX1_suitsAsLoose_13 rfl ?_
  refine am_getI dX1_suitsAsLoose_14 fk_RX1_18 rfl ?_
  refine am_aload_n dX1_suitsAsLoose_17 rfl ?_
  refine am_getI dX1_suitsAsLoose_18 fk_RX1_18 rfl ?_
  refine am_isub dX1_suitsAsLoose_21 ?_
  refine am_iconst (v := 1) dX1_suitsAsLoose_22 (by decide) ?_
  refine am_icmp_gt (tgt := 30) dX1_suitsAsLoose_23 (by decide) (fun c1 => ?_) (fun c1 => ?_)
  · refine am_iconst (v := 0) dX1_suitsAsLoose_30 (by decide) ?_
    exact am_zret dX1_suitsAsLoose_31 rfl rfl
  refine am_iconst (v := 1) dX1_suitsAsLoose_26 (by decide) ?_
  refine am_goto (tgt := 31) dX1_suitsAsLoose_27 (by decide) ?_
  exact am_zret dX1_suitsAsLoose_31 rfl rfl
theorem txX1_suitsAsLoose {xs : List Int32} (l0 : Option Nat) (l1 : Option Nat) (h : am_H) (a : Int32) (h2 : am_H) (e : fxX1_suitsAsLoose l0 l1 h = some (a, h2)) : am_Ct xs mX1_suitsAsLoose 0 0 0 [am_R l0, am_R l1] h (fun v h3 => v = am_ci a ∧ h3 = h2) := am_meth okX1_suitsAsLoose (Nat.le_of_ble_eq_true rfl) rfl (sxX1_suitsAsLoose l0 l1 h) e
theorem dX1_suits_0 : am_at cX1_suits 0 (.aload_n 0) 1 1 := by decide +kernel
theorem dX1_suits_1 : am_at cX1_suits 1 (.getfield 9) 3 4 := by decide +kernel
theorem dX1_suits_4 : am_at cX1_suits 4 (.tableswitch 99 1 5 #[36, 69, 42, 75, 97]) 36 40 := by decide +kernel
theorem dX1_suits_40 : am_at cX1_suits 40 (.aload_n 0) 1 41 := by decide +kernel
theorem dX1_suits_41 : am_at cX1_suits 41 (.aload_n 1) 1 42 := by decide +kernel
theorem dX1_suits_42 : am_at cX1_suits 42 (.invokevirtual 43) 3 45 := by decide +kernel
theorem dX1_suits_45 : am_at cX1_suits 45 (.ireturn) 1 46 := by decide +kernel
theorem dX1_suits_46 : am_at cX1_suits 46 (.aload_n 0) 1 47 := by decide +kernel
theorem dX1_suits_47 : am_at cX1_suits 47 (.aload_n 1) 1 48 := by decide +kernel
theorem dX1_suits_48 : am_at cX1_suits 48 (.invokevirtual 43) 3 51 := by decide +kernel
theorem dX1_suits_51 : am_at cX1_suits 51 (.ifCond .eq 20) 3 54 := by decide +kernel
theorem dX1_suits_54 : am_at cX1_suits 54 (.aload_n 1) 1 55 := by decide +kernel
theorem dX1_suits_55 : am_at cX1_suits 55 (.getfield 21) 3 58 := by decide +kernel
theorem dX1_suits_58 : am_at cX1_suits 58 (.aload_n 0) 1 59 := by decide +kernel
theorem dX1_suits_59 : am_at cX1_suits 59 (.getfield 21) 3 62 := by decide +kernel
theorem dX1_suits_62 : am_at cX1_suits 62 (.iconst 2) 1 63 := by decide +kernel
theorem dX1_suits_63 : am_at cX1_suits 63 (.idiv) 1 64 := by decide +kernel
theorem dX1_suits_64 : am_at cX1_suits 64 (.if_icmp .lt 7) 3 67 := by decide +kernel
theorem dX1_suits_67 : am_at cX1_suits 67 (.iconst 1) 1 68 := by decide +kernel
theorem dX1_suits_68 : am_at cX1_suits 68 (.goto 4) 3 71 := by decide +kernel
theorem dX1_suits_71 : am_at cX1_suits 71 (.iconst 0) 1 72 := by decide +kernel
theorem dX1_suits_72 : am_at cX1_suits 72 (.ireturn) 1 73 := by decide +kernel
theorem dX1_suits_73 : am_at cX1_suits 73 (.aload_n 0) 1 74 := by decide +kernel
theorem dX1_suits_74 : am_at cX1_suits 74 (.aload_n 1) 1 75 := by decide +kernel
theorem dX1_suits_75 : am_at cX1_suits 75 (.invokevirtual 47) 3 78 := by decide +kernel
theorem dX1_suits_78 : am_at cX1_suits 78 (.ireturn) 1 79 := by decide +kernel
theorem dX1_suits_79 : am_at cX1_suits 79 (.aload_n 0) 1 80 := by decide +kernel
theorem dX1_suits_80 : am_at cX1_suits 80 (.aload_n 1) 1 81 := by decide +kernel
theorem dX1_suits_81 : am_at cX1_suits 81 (.invokevirtual 47) 3 84 := by decide +kernel
theorem dX1_suits_84 : am_at cX1_suits 84 (.ifCond .eq 15) 3 87 := by decide +kernel
theorem dX1_suits_87 : am_at cX1_suits 87 (.aload_n 1) 1 88 := by decide +kernel
theorem dX1_suits_88 : am_at cX1_suits 88 (.getfield 9) 3 91 := by decide +kernel
theorem dX1_suits_91 : am_at cX1_suits 91 (.iconst 4) 1 92 := by decide +kernel
theorem dX1_suits_92 : am_at cX1_suits 92 (.if_icmp .eq 7) 3 95 := by decide +kernel
theorem dX1_suits_95 : am_at cX1_suits 95 (.iconst 1) 1 96 := by decide +kernel
theorem dX1_suits_96 : am_at cX1_suits 96 (.goto 4) 3 99 := by decide +kernel
theorem dX1_suits_99 : am_at cX1_suits 99 (.iconst 0) 1 100 := by decide +kernel
theorem dX1_suits_100 : am_at cX1_suits 100 (.ireturn) 1 101 := by decide +kernel
theorem dX1_suits_101 : am_at cX1_suits 101 (.iconst 1) 1 102 := by decide +kernel
theorem dX1_suits_102 : am_at cX1_suits 102 (.ireturn) 1 103 := by decide +kernel
theorem dX1_suits_103 : am_at cX1_suits 103 (.aload_n 0) 1 104 := by decide +kernel
theorem dX1_suits_104 : am_at cX1_suits 104 (.getfield 18) 3 107 := by decide +kernel
theorem dX1_suits_107 : am_at cX1_suits 107 (.aload_n 1) 1 108 := by decide +kernel
theorem dX1_suits_108 : am_at cX1_suits 108 (.getfield 18) 3 111 := by decide +kernel
theorem dX1_suits_111 : am_at cX1_suits 111 (.if_icmp .ne 7) 3 114 := by decide +kernel
theorem dX1_suits_114 : am_at cX1_suits 114 (.iconst 1) 1 115 := by decide +kernel
theorem dX1_suits_115 : am_at cX1_suits 115 (.goto 4) 3 118 := by decide +kernel
theorem dX1_suits_118 : am_at cX1_suits 118 (.iconst 0) 1 119 := by decide +kernel
theorem dX1_suits_119 : am_at cX1_suits 119 (.ireturn) 1 120 := by decide +kernel
def fxX1_suits (l0 : Option Nat) (l1 : Option Nat) (h : am_H) : Option (Int32 × am_H) := am_gd (am_ob h l0 1) (if (am_gi h l0 0) = 1 then (am_gd (am_ob h l0 1) (am_bd (fxX1_suitsAsLined l0 l1 h) (fun r1 h2 => am_gd (am_bz r1) (some (r1, h2))))) else (if (am_gi h l0 0) = 2 then (am_gd (am_ob h l0 1) (am_bd (fxX1_suitsAsLoose l0 l1 h) (fun r4 h5 => am_gd (am_bz r4) (some (r4, h5))))) else (if (am_gi h l0 0) = 3 then (am_gd (am_ob h l0 1) (am_bd (fxX1_suitsAsLined l0 l1 h) (fun r7 h8 => if r7 = 0 then (am_gd (am_bz (0 : Int32)) (some ((0 : Int32), h8))) else (am_gd (am_ob h8 l1 1) (am_gd (am_ob h8 l0 1) (am_gd (am_nz (2 : Int32)) (if (am_gi h8 l1 3) < ((am_gi h8 l0 3) / (2 : Int32)) then (am_gd (am_bz (0 : Int32)) (some ((0 : Int32), h8))) else (am_gd (am_bz (1 : Int32)) (some ((1 : Int32), h8)))))))))) else (if (am_gi h l0 0) = 4 then (am_gd (am_ob h l0 1) (am_bd (fxX1_suitsAsLoose l0 l1 h) (fun r12 h13 => if r12 = 0 then (am_gd (am_bz (0 : Int32)) (some ((0 : Int32), h13))) else (am_gd (am_ob h13 l1 1) (if (am_gi h13 l1 0) = (4 : Int32) then (am_gd (am_bz (0 : Int32)) (some ((0 : Int32), h13))) else (am_gd (am_bz (1 : Int32)) (some ((1 : Int32), h13)))))))) else (if (am_gi h l0 0) = 5 then (am_gd (am_bz (1 : Int32)) (some ((1 : Int32), h))) else (am_gd (am_ob h l0 1) (am_gd (am_ob h l1 1) (if (am_gi h l0 2) = (am_gi h l1 2) then (am_gd (am_bz (1 : Int32)) (some ((1 : Int32), h))) else (am_gd (am_bz (0 : Int32)) (some ((0 : Int32), h)))))))))))
set_option maxRecDepth 100000 in
theorem sxX1_suits {xs : List Int32} (l0 : Option Nat) (l1 : Option Nat) (h : am_H) : am_Sm xs am_ci mX1_suits 1 0 0 0 [some (am_R l0), some (am_R l1)] [] h (fxX1_suits l0 l1 h) := by
  unfold fxX1_suits
  refine am_aload_n dX1_suits_0 rfl ?_
  refine am_getI dX1_suits_1 fk_RX1_9 rfl ?_
  refine am_table (cs := [(1, 40), (2, 73), (3, 46), (4, 79), (5, 101)]) (dt := 103) dX1_suits_4 (by decide +kernel) ?_
  refine am_sw_cons (fun c3 => ?_) (fun c3 => ?_)
  · refine am_aload_n dX1_suits_40 rfl ?_
    refine am_aload_n dX1_suits_41 rfl ?_
    refine am_callV (cvj := am_ci) (mtj := mX1_suitsAsLined) (dj := 0) (nj := 1) (rcj := 0) (rsj := 0) (rc' := 0) (rs' := 0) (ci := 1) (st' := fun a9 => (am_I a9 :: [])) ⟨_, rfl, rfl⟩ [am_R l1] [] dX1_suits_42 okX1_suitsAsLined lk_RX1_43 (fun zA zH zE => txX1_suitsAsLined l0 l1 h zA zH zE) rfl (fun _ => rfl) (by decide) rfl (Nat.le_of_ble_eq_true rfl) (by decide) (by decide) (fun r1 h2 => ?_)
    exact am_zret dX1_suits_45 rfl rfl
  refine am_sw_cons (fun c6 => ?_) (fun c6 => ?_)
  · refine am_aload_n dX1_suits_73 rfl ?_
    refine am_aload_n dX1_suits_74 rfl ?_
    refine am_callV (cvj := am_ci) (mtj := mX1_suitsAsLoose) (dj := 0) (nj := 1) (rcj := 0) (rsj := 0) (rc' := 0) (rs' := 0) (ci := 1) (st' := fun a9 => (am_I a9 :: [])) ⟨_, rfl, rfl⟩ [am_R l1] [] dX1_suits_75 okX1_suitsAsLoose lk_RX1_47 (fun zA zH zE => txX1_suitsAsLoose l0 l1 h zA zH zE) rfl (fun _ => rfl) (by decide) rfl (Nat.le_of_ble_eq_true rfl) (by decide) (by decide) (fun r4 h5 => ?_)
    exact am_zret dX1_suits_78 rfl rfl
  refine am_sw_cons (fun c11 => ?_) (fun c11 => ?_)
  · refine am_aload_n dX1_suits_46 rfl ?_
    refine am_aload_n dX1_suits_47 rfl ?_
    refine am_callV (cvj := am_ci) (mtj := mX1_suitsAsLined) (dj := 0) (nj := 1) (rcj := 0) (rsj := 0) (rc' := 0) (rs' := 0) (ci := 1) (st' := fun a9 => (am_I a9 :: [])) ⟨_, rfl, rfl⟩ [am_R l1] [] dX1_suits_48 okX1_suitsAsLined lk_RX1_43 (fun zA zH zE => txX1_suitsAsLined l0 l1 h zA zH zE) rfl (fun _ => rfl) (by decide) rfl (Nat.le_of_ble_eq_true rfl) (by decide) (by decide) (fun r7 h8 => ?_)
    refine am_if_eq (tgt := 71) dX1_suits_51 (by decide) (fun c10 => ?_) (fun c10 => ?_)
    · refine am_iconst (v := 0) dX1_suits_71 (by decide) ?_
      exact am_zret dX1_suits_72 rfl rfl
    refine am_aload_n dX1_suits_54 rfl ?_
    refine am_getI dX1_suits_55 fk_RX1_21 rfl ?_
    refine am_aload_n dX1_suits_58 rfl ?_
    refine am_getI dX1_suits_59 fk_RX1_21 rfl ?_
    refine am_iconst (v := 2) dX1_suits_62 (by decide) ?_
    refine am_idiv dX1_suits_63 ?_
    refine am_icmp_lt (tgt := 71) dX1_suits_64 (by decide) (fun c9 => ?_) (fun c9 => ?_)
    · refine am_iconst (v := 0) dX1_suits_71 (by decide) ?_
      exact am_zret dX1_suits_72 rfl rfl
    refine am_iconst (v := 1) dX1_suits_67 (by decide) ?_
    refine am_goto (tgt := 72) dX1_suits_68 (by decide) ?_
    exact am_zret dX1_suits_72 rfl rfl
  refine am_sw_cons (fun c16 => ?_) (fun c16 => ?_)
  · refine am_aload_n dX1_suits_79 rfl ?_
    refine am_aload_n dX1_suits_80 rfl ?_
    refine am_callV (cvj := am_ci) (mtj := mX1_suitsAsLoose) (dj := 0) (nj := 1) (rcj := 0) (rsj := 0) (rc' := 0) (rs' := 0) (ci := 1) (st' := fun a9 => (am_I a9 :: [])) ⟨_, rfl, rfl⟩ [am_R l1] [] dX1_suits_81 okX1_suitsAsLoose lk_RX1_47 (fun zA zH zE => txX1_suitsAsLoose l0 l1 h zA zH zE) rfl (fun _ => rfl) (by decide) rfl (Nat.le_of_ble_eq_true rfl) (by decide) (by decide) (fun r12 h13 => ?_)
    refine am_if_eq (tgt := 99) dX1_suits_84 (by decide) (fun c15 => ?_) (fun c15 => ?_)
    · refine am_iconst (v := 0) dX1_suits_99 (by decide) ?_
      exact am_zret dX1_suits_100 rfl rfl
    refine am_aload_n dX1_suits_87 rfl ?_
    refine am_getI dX1_suits_88 fk_RX1_9 rfl ?_
    refine am_iconst (v := 4) dX1_suits_91 (by decide) ?_
    refine am_icmp_eq (tgt := 99) dX1_suits_92 (by decide) (fun c14 => ?_) (fun c14 => ?_)
    · refine am_iconst (v := 0) dX1_suits_99 (by decide) ?_
      exact am_zret dX1_suits_100 rfl rfl
    refine am_iconst (v := 1) dX1_suits_95 (by decide) ?_
    refine am_goto (tgt := 100) dX1_suits_96 (by decide) ?_
    exact am_zret dX1_suits_100 rfl rfl
  refine am_sw_cons (fun c17 => ?_) (fun c17 => ?_)
  · refine am_iconst (v := 1) dX1_suits_101 (by decide) ?_
    exact am_zret dX1_suits_102 rfl rfl
  refine am_sw_nil ?_
  refine am_aload_n dX1_suits_103 rfl ?_
  refine am_getI dX1_suits_104 fk_RX1_18 rfl ?_
  refine am_aload_n dX1_suits_107 rfl ?_
  refine am_getI dX1_suits_108 fk_RX1_18 rfl ?_
  refine am_icmp_ne (tgt := 118) dX1_suits_111 (by decide) (fun c18 => ?_) (fun c18 => ?_)
  · refine am_iconst (v := 0) dX1_suits_118 (by decide) ?_
    exact am_zret dX1_suits_119 rfl rfl
  refine am_iconst (v := 1) dX1_suits_114 (by decide) ?_
  refine am_goto (tgt := 119) dX1_suits_115 (by decide) ?_
  exact am_zret dX1_suits_119 rfl rfl
theorem txX1_suits {xs : List Int32} (l0 : Option Nat) (l1 : Option Nat) (h : am_H) (a : Int32) (h2 : am_H) (e : fxX1_suits l0 l1 h = some (a, h2)) : am_Ct xs mX1_suits 1 0 0 [am_R l0, am_R l1] h (fun v h3 => v = am_ci a ∧ h3 = h2) := am_meth okX1_suits (Nat.le_of_ble_eq_true rfl) rfl (sxX1_suits l0 l1 h) e
theorem dX1_pairsWith_0 : am_at cX1_pairsWith 0 (.aload_n 0) 1 1 := by decide +kernel
theorem dX1_pairsWith_1 : am_at cX1_pairsWith 1 (.getfield 15) 3 4 := by decide +kernel
theorem dX1_pairsWith_4 : am_at cX1_pairsWith 4 (.aload_n 1) 1 5 := by decide +kernel
theorem dX1_pairsWith_5 : am_at cX1_pairsWith 5 (.getfield 15) 3 8 := by decide +kernel
theorem dX1_pairsWith_8 : am_at cX1_pairsWith 8 (.if_icmp .ne 19) 3 11 := by decide +kernel
theorem dX1_pairsWith_11 : am_at cX1_pairsWith 11 (.aload_n 0) 1 12 := by decide +kernel
theorem dX1_pairsWith_12 : am_at cX1_pairsWith 12 (.getfield 9) 3 15 := by decide +kernel
theorem dX1_pairsWith_15 : am_at cX1_pairsWith 15 (.iconst 4) 1 16 := by decide +kernel
theorem dX1_pairsWith_16 : am_at cX1_pairsWith 16 (.if_icmp .eq 11) 3 19 := by decide +kernel
theorem dX1_pairsWith_19 : am_at cX1_pairsWith 19 (.aload_n 1) 1 20 := by decide +kernel
theorem dX1_pairsWith_20 : am_at cX1_pairsWith 20 (.getfield 9) 3 23 := by decide +kernel
theorem dX1_pairsWith_23 : am_at cX1_pairsWith 23 (.iconst 4) 1 24 := by decide +kernel
theorem dX1_pairsWith_24 : am_at cX1_pairsWith 24 (.if_icmp .ne 7) 3 27 := by decide +kernel
theorem dX1_pairsWith_27 : am_at cX1_pairsWith 27 (.iconst 1) 1 28 := by decide +kernel
theorem dX1_pairsWith_28 : am_at cX1_pairsWith 28 (.goto 4) 3 31 := by decide +kernel
theorem dX1_pairsWith_31 : am_at cX1_pairsWith 31 (.iconst 0) 1 32 := by decide +kernel
theorem dX1_pairsWith_32 : am_at cX1_pairsWith 32 (.istore_n 2) 1 33 := by decide +kernel
theorem dX1_pairsWith_33 : am_at cX1_pairsWith 33 (.aload_n 0) 1 34 := by decide +kernel
theorem dX1_pairsWith_34 : am_at cX1_pairsWith 34 (.getfield 27) 3 37 := by decide +kernel
theorem dX1_pairsWith_37 : am_at cX1_pairsWith 37 (.ifCond .ne 34) 3 40 := by decide +kernel
theorem dX1_pairsWith_40 : am_at cX1_pairsWith 40 (.aload_n 1) 1 41 := by decide +kernel
theorem dX1_pairsWith_41 : am_at cX1_pairsWith 41 (.getfield 27) 3 44 := by decide +kernel
theorem dX1_pairsWith_44 : am_at cX1_pairsWith 44 (.ifCond .ne 27) 3 47 := by decide +kernel
theorem dX1_pairsWith_47 : am_at cX1_pairsWith 47 (.iload_n 2) 1 48 := by decide +kernel
theorem dX1_pairsWith_48 : am_at cX1_pairsWith 48 (.ifCond .eq 23) 3 51 := by decide +kernel
theorem dX1_pairsWith_51 : am_at cX1_pairsWith 51 (.aload_n 0) 1 52 := by decide +kernel
theorem dX1_pairsWith_52 : am_at cX1_pairsWith 52 (.aload_n 1) 1 53 := by decide +kernel
theorem dX1_pairsWith_53 : am_at cX1_pairsWith 53 (.invokevirtual 50) 3 56 := by decide +kernel
theorem dX1_pairsWith_56 : am_at cX1_pairsWith 56 (.ifCond .eq 15) 3 59 := by decide +kernel
theorem dX1_pairsWith_59 : am_at cX1_pairsWith 59 (.aload_n 1) 1 60 := by decide +kernel
theorem dX1_pairsWith_60 : am_at cX1_pairsWith 60 (.aload_n 0) 1 61 := by decide +kernel
theorem dX1_pairsWith_61 : am_at cX1_pairsWith 61 (.invokevirtual 50) 3 64 := by decide +kernel
theorem dX1_pairsWith_64 : am_at cX1_pairsWith 64 (.ifCond .eq 7) 3 67 := by decide +kernel
theorem dX1_pairsWith_67 : am_at cX1_pairsWith 67 (.iconst 1) 1 68 := by decide +kernel
theorem dX1_pairsWith_68 : am_at cX1_pairsWith 68 (.goto 4) 3 71 := by decide +kernel
theorem dX1_pairsWith_71 : am_at cX1_pairsWith 71 (.iconst 0) 1 72 := by decide +kernel
theorem dX1_pairsWith_72 : am_at cX1_pairsWith 72 (.ireturn) 1 73 := by decide +kernel
def fxX1_pairsWith_b32 (l0 : Option Nat) (l1 : Option Nat) (s0 : Int32) (h : am_H) : Option (Int32 × am_H) := am_lt s0 (fun x4 => am_gd (am_ob h l0 1) (if (am_gi h l0 5) = 0 then (am_gd (am_ob h l1 1) (if (am_gi h l1 5) = 0 then (if x4 = 0 then (am_gd (am_bz (0 : Int32)) (some ((0 : Int32), h))) else (am_gd (am_ob h l0 1) (am_bd (fxX1_suits l0 l1 h) (fun r5 h6 => if r5 = 0 then (am_gd (am_bz (0 : Int32)) (some ((0 : Int32), h6))) else (am_gd (am_ob h6 l1 1) (am_bd (fxX1_suits l1 l0 h6) (fun r7 h8 => if r7 = 0 then (am_gd (am_bz (0 : Int32)) (some ((0 : Int32), h8))) else (am_gd (am_bz (1 : Int32)) (some ((1 : Int32), h8)))))))))) else (am_gd (am_bz (0 : Int32)) (some ((0 : Int32), h))))) else (am_gd (am_bz (0 : Int32)) (some ((0 : Int32), h)))))
set_option maxRecDepth 100000 in
theorem sxX1_pairsWith_b32 {xs : List Int32} (l0 : Option Nat) (l1 : Option Nat) (s0 : Int32) (h : am_H) : am_Sm xs am_ci mX1_pairsWith 2 0 0 32 [some (am_R l0), some (am_R l1), none] [am_I s0] h (fxX1_pairsWith_b32 l0 l1 s0 h) := by
  unfold fxX1_pairsWith_b32
  refine am_istore_n (LL := fun y9 => [some (am_R l0), some (am_R l1), some (am_I y9)]) dX1_pairsWith_32 (by decide) (fun _ => rfl) (fun x4 => ?_)
  refine am_aload_n dX1_pairsWith_33 rfl ?_
  refine am_getI dX1_pairsWith_34 fk_RX1_27 rfl ?_
  refine am_if_ne (tgt := 71) dX1_pairsWith_37 (by decide) (fun c13 => ?_) (fun c13 => ?_)
  · refine am_iconst (v := 0) dX1_pairsWith_71 (by decide) ?_
    exact am_zret dX1_pairsWith_72 rfl rfl
  refine am_aload_n dX1_pairsWith_40 rfl ?_
  refine am_getI dX1_pairsWith_41 fk_RX1_27 rfl ?_
  refine am_if_ne (tgt := 71) dX1_pairsWith_44 (by decide) (fun c12 => ?_) (fun c12 => ?_)
  · refine am_iconst (v := 0) dX1_pairsWith_71 (by decide) ?_
    exact am_zret dX1_pairsWith_72 rfl rfl
  refine am_iload_n dX1_pairsWith_47 rfl ?_
  refine am_if_eq (tgt := 71) dX1_pairsWith_48 (by decide) (fun c11 => ?_) (fun c11 => ?_)
  · refine am_iconst (v := 0) dX1_pairsWith_71 (by decide) ?_
    exact am_zret dX1_pairsWith_72 rfl rfl
  refine am_aload_n dX1_pairsWith_51 rfl ?_
  refine am_aload_n dX1_pairsWith_52 rfl ?_
  refine am_callV (cvj := am_ci) (mtj := mX1_suits) (dj := 1) (nj := 1) (rcj := 0) (rsj := 0) (rc' := 0) (rs' := 0) (ci := 1) (st' := fun a9 => (am_I a9 :: [])) ⟨_, rfl, rfl⟩ [am_R l1] [] dX1_pairsWith_53 okX1_suits lk_RX1_50 (fun zA zH zE => txX1_suits l0 l1 h zA zH zE) rfl (fun _ => rfl) (by decide) rfl (Nat.le_of_ble_eq_true rfl) (by decide) (by decide) (fun r5 h6 => ?_)
  refine am_if_eq (tgt := 71) dX1_pairsWith_56 (by decide) (fun c10 => ?_) (fun c10 => ?_)
  · refine am_iconst (v := 0) dX1_pairsWith_71 (by decide) ?_
    exact am_zret dX1_pairsWith_72 rfl rfl
  refine am_aload_n dX1_pairsWith_59 rfl ?_
  refine am_aload_n dX1_pairsWith_60 rfl ?_
  refine am_callV (cvj := am_ci) (mtj := mX1_suits) (dj := 1) (nj := 1) (rcj := 0) (rsj := 0) (rc' := 0) (rs' := 0) (ci := 1) (st' := fun a9 => (am_I a9 :: [])) ⟨_, rfl, rfl⟩ [am_R l0] [] dX1_pairsWith_61 okX1_suits lk_RX1_50 (fun zA zH zE => txX1_suits l1 l0 h6 zA zH zE) rfl (fun _ => rfl) (by decide) rfl (Nat.le_of_ble_eq_true rfl) (by decide) (by decide) (fun r7 h8 => ?_)
  refine am_if_eq (tgt := 71) dX1_pairsWith_64 (by decide) (fun c9 => ?_) (fun c9 => ?_)
  · refine am_iconst (v := 0) dX1_pairsWith_71 (by decide) ?_
    exact am_zret dX1_pairsWith_72 rfl rfl
  refine am_iconst (v := 1) dX1_pairsWith_67 (by decide) ?_
  refine am_goto (tgt := 72) dX1_pairsWith_68 (by decide) ?_
  exact am_zret dX1_pairsWith_72 rfl rfl
def fxX1_pairsWith_b27 (l0 : Option Nat) (l1 : Option Nat) (h : am_H) : Option (Int32 × am_H) := fxX1_pairsWith_b32 l0 l1 (1 : Int32) h
set_option maxRecDepth 100000 in
theorem sxX1_pairsWith_b27 {xs : List Int32} (l0 : Option Nat) (l1 : Option Nat) (h : am_H) : am_Sm xs am_ci mX1_pairsWith 2 0 0 27 [some (am_R l0), some (am_R l1), none] [] h (fxX1_pairsWith_b27 l0 l1 h) := by
  unfold fxX1_pairsWith_b27
  refine am_iconst (v := 1) dX1_pairsWith_27 (by decide) ?_
  refine am_goto (tgt := 32) dX1_pairsWith_28 (by decide) ?_
  exact am_weak (sxX1_pairsWith_b32 l0 l1 (1 : Int32) h) ⟨rfl, ⟨rfl, trivial⟩⟩ (Nat.le_refl _) (Nat.le_refl _)
def fxX1_pairsWith (l0 : Option Nat) (l1 : Option Nat) (h : am_H) : Option (Int32 × am_H) := am_gd (am_ob h l0 1) (am_gd (am_ob h l1 1) (if (am_gi h l0 1) = (am_gi h l1 1) then (am_gd (am_ob h l0 1) (if (am_gi h l0 0) = (4 : Int32) then (fxX1_pairsWith_b27 l0 l1 h) else (am_gd (am_ob h l1 1) (if (am_gi h l1 0) = (4 : Int32) then (fxX1_pairsWith_b27 l0 l1 h) else (fxX1_pairsWith_b32 l0 l1 (0 : Int32) h))))) else (fxX1_pairsWith_b27 l0 l1 h)))
set_option maxRecDepth 100000 in
theorem sxX1_pairsWith {xs : List Int32} (l0 : Option Nat) (l1 : Option Nat) (h : am_H) : am_Sm xs am_ci mX1_pairsWith 2 0 0 0 [some (am_R l0), some (am_R l1), none] [] h (fxX1_pairsWith l0 l1 h) := by
  unfold fxX1_pairsWith
  refine am_aload_n dX1_pairsWith_0 rfl ?_
  refine am_getI dX1_pairsWith_1 fk_RX1_15 rfl ?_
  refine am_aload_n dX1_pairsWith_4 rfl ?_
  refine am_getI dX1_pairsWith_5 fk_RX1_15 rfl ?_
  refine am_icmp_ne (tgt := 27) dX1_pairsWith_8 (by decide) (fun c3 => ?_) (fun c3 => ?_)
  · exact am_weak (sxX1_pairsWith_b27 l0 l1 h) ⟨rfl, ⟨rfl, trivial⟩⟩ (Nat.le_refl _) (Nat.le_refl _)
  refine am_aload_n dX1_pairsWith_11 rfl ?_
  refine am_getI dX1_pairsWith_12 fk_RX1_9 rfl ?_
  refine am_iconst (v := 4) dX1_pairsWith_15 (by decide) ?_
  refine am_icmp_eq (tgt := 27) dX1_pairsWith_16 (by decide) (fun c2 => ?_) (fun c2 => ?_)
  · exact am_weak (sxX1_pairsWith_b27 l0 l1 h) ⟨rfl, ⟨rfl, trivial⟩⟩ (Nat.le_refl _) (Nat.le_refl _)
  refine am_aload_n dX1_pairsWith_19 rfl ?_
  refine am_getI dX1_pairsWith_20 fk_RX1_9 rfl ?_
  refine am_iconst (v := 4) dX1_pairsWith_23 (by decide) ?_
  refine am_icmp_ne (tgt := 31) dX1_pairsWith_24 (by decide) (fun c1 => ?_) (fun c1 => ?_)
  · refine am_iconst (v := 0) dX1_pairsWith_31 (by decide) ?_
    exact am_weak (sxX1_pairsWith_b32 l0 l1 (0 : Int32) h) ⟨rfl, ⟨rfl, trivial⟩⟩ (Nat.le_refl _) (Nat.le_refl _)
  exact am_weak (sxX1_pairsWith_b27 l0 l1 h) ⟨rfl, ⟨rfl, trivial⟩⟩ (Nat.le_refl _) (Nat.le_refl _)
theorem txX1_pairsWith {xs : List Int32} (l0 : Option Nat) (l1 : Option Nat) (h : am_H) (a : Int32) (h2 : am_H) (e : fxX1_pairsWith l0 l1 h = some (a, h2)) : am_Ct xs mX1_pairsWith 2 0 0 [am_R l0, am_R l1] h (fun v h3 => v = am_ci a ∧ h3 = h2) := am_meth okX1_pairsWith (Nat.le_of_ble_eq_true rfl) rfl (sxX1_pairsWith l0 l1 h) e
theorem dX2_takeAfter_0 : am_at cX2_takeAfter 0 (.aload_n 0) 1 1 := by decide +kernel
theorem dX2_takeAfter_1 : am_at cX2_takeAfter 1 (.aload_n 1) 1 2 := by decide +kernel
theorem dX2_takeAfter_2 : am_at cX2_takeAfter 2 (.getfield 18) 3 5 := by decide +kernel
theorem dX2_takeAfter_5 : am_at cX2_takeAfter 5 (.putfield 18) 3 8 := by decide +kernel
theorem dX2_takeAfter_8 : am_at cX2_takeAfter 8 (.iconst 0) 1 9 := by decide +kernel
theorem dX2_takeAfter_9 : am_at cX2_takeAfter 9 (.istore_n 2) 1 10 := by decide +kernel
theorem dX2_takeAfter_10 : am_at cX2_takeAfter 10 (.iload_n 2) 1 11 := by decide +kernel
theorem dX2_takeAfter_11 : am_at cX2_takeAfter 11 (.aload_n 0) 1 12 := by decide +kernel
theorem dX2_takeAfter_12 : am_at cX2_takeAfter 12 (.getfield 18) 3 15 := by decide +kernel
theorem dX2_takeAfter_15 : am_at cX2_takeAfter 15 (.if_icmp .ge 24) 3 18 := by decide +kernel
theorem dX2_takeAfter_18 : am_at cX2_takeAfter 18 (.aload_n 0) 1 19 := by decide +kernel
theorem dX2_takeAfter_19 : am_at cX2_takeAfter 19 (.getfield 11) 3 22 := by decide +kernel
theorem dX2_takeAfter_22 : am_at cX2_takeAfter 22 (.iload_n 2) 1 23 := by decide +kernel
theorem dX2_takeAfter_23 : am_at cX2_takeAfter 23 (.aaload) 1 24 := by decide +kernel
theorem dX2_takeAfter_24 : am_at cX2_takeAfter 24 (.aload_n 1) 1 25 := by decide +kernel
theorem dX2_takeAfter_25 : am_at cX2_takeAfter 25 (.getfield 11) 3 28 := by decide +kernel
theorem dX2_takeAfter_28 : am_at cX2_takeAfter 28 (.iload_n 2) 1 29 := by decide +kernel
theorem dX2_takeAfter_29 : am_at cX2_takeAfter 29 (.aaload) 1 30 := by decide +kernel
theorem dX2_takeAfter_30 : am_at cX2_takeAfter 30 (.invokevirtual 47) 3 33 := by decide +kernel
theorem dX2_takeAfter_33 : am_at cX2_takeAfter 33 (.iinc 2 1) 3 36 := by decide +kernel
theorem dX2_takeAfter_36 : am_at cX2_takeAfter 36 (.goto (-26)) 3 39 := by decide +kernel
theorem dX2_takeAfter_39 : am_at cX2_takeAfter 39 (.aload_n 0) 1 40 := by decide +kernel
theorem dX2_takeAfter_40 : am_at cX2_takeAfter 40 (.aload_n 1) 1 41 := by decide +kernel
theorem dX2_takeAfter_41 : am_at cX2_takeAfter 41 (.getfield 22) 3 44 := by decide +kernel
theorem dX2_takeAfter_44 : am_at cX2_takeAfter 44 (.putfield 22) 3 47 := by decide +kernel
theorem dX2_takeAfter_47 : am_at cX2_takeAfter 47 (.aload_n 0) 1 48 := by decide +kernel
theorem dX2_takeAfter_48 : am_at cX2_takeAfter 48 (.aload_n 1) 1 49 := by decide +kernel
theorem dX2_takeAfter_49 : am_at cX2_takeAfter 49 (.getfield 25) 3 52 := by decide +kernel
theorem dX2_takeAfter_52 : am_at cX2_takeAfter 52 (.putfield 25) 3 55 := by decide +kernel
theorem dX2_takeAfter_55 : am_at cX2_takeAfter 55 (.aload_n 0) 1 56 := by decide +kernel
theorem dX2_takeAfter_56 : am_at cX2_takeAfter 56 (.aload_n 1) 1 57 := by decide +kernel
theorem dX2_takeAfter_57 : am_at cX2_takeAfter 57 (.getfield 28) 3 60 := by decide +kernel
theorem dX2_takeAfter_60 : am_at cX2_takeAfter 60 (.putfield 28) 3 63 := by decide +kernel
theorem dX2_takeAfter_63 : am_at cX2_takeAfter 63 (.aload_n 0) 1 64 := by decide +kernel
theorem dX2_takeAfter_64 : am_at cX2_takeAfter 64 (.aload_n 1) 1 65 := by decide +kernel
theorem dX2_takeAfter_65 : am_at cX2_takeAfter 65 (.getfield 38) 3 68 := by decide +kernel
theorem dX2_takeAfter_68 : am_at cX2_takeAfter 68 (.putfield 38) 3 71 := by decide +kernel
theorem dX2_takeAfter_71 : am_at cX2_takeAfter 71 (.iconst 0) 1 72 := by decide +kernel
theorem dX2_takeAfter_72 : am_at cX2_takeAfter 72 (.istore_n 2) 1 73 := by decide +kernel
theorem dX2_takeAfter_73 : am_at cX2_takeAfter 73 (.iload_n 2) 1 74 := by decide +kernel
theorem dX2_takeAfter_74 : am_at cX2_takeAfter 74 (.aload_n 0) 1 75 := by decide +kernel
theorem dX2_takeAfter_75 : am_at cX2_takeAfter 75 (.getfield 38) 3 78 := by decide +kernel
theorem dX2_takeAfter_78 : am_at cX2_takeAfter 78 (.if_icmp .ge 33) 3 81 := by decide +kernel
theorem dX2_takeAfter_81 : am_at cX2_takeAfter 81 (.aload_n 0) 1 82 := by decide +kernel
theorem dX2_takeAfter_82 : am_at cX2_takeAfter 82 (.getfield 31) 3 85 := by decide +kernel
theorem dX2_takeAfter_85 : am_at cX2_takeAfter 85 (.iload_n 2) 1 86 := by decide +kernel
theorem dX2_takeAfter_86 : am_at cX2_takeAfter 86 (.aload_n 1) 1 87 := by decide +kernel
theorem dX2_takeAfter_87 : am_at cX2_takeAfter 87 (.getfield 31) 3 90 := by decide +kernel
theorem dX2_takeAfter_90 : am_at cX2_takeAfter 90 (.iload_n 2) 1 91 := by decide +kernel
theorem dX2_takeAfter_91 : am_at cX2_takeAfter 91 (.iaload) 1 92 := by decide +kernel
theorem dX2_takeAfter_92 : am_at cX2_takeAfter 92 (.iastore) 1 93 := by decide +kernel
theorem dX2_takeAfter_93 : am_at cX2_takeAfter 93 (.aload_n 0) 1 94 := by decide +kernel
theorem dX2_takeAfter_94 : am_at cX2_takeAfter 94 (.getfield 35) 3 97 := by decide +kernel
theorem dX2_takeAfter_97 : am_at cX2_takeAfter 97 (.iload_n 2) 1 98 := by decide +kernel
theorem dX2_takeAfter_98 : am_at cX2_takeAfter 98 (.aload_n 1) 1 99 := by decide +kernel
theorem dX2_takeAfter_99 : am_at cX2_takeAfter 99 (.getfield 35) 3 102 := by decide +kernel
theorem dX2_takeAfter_102 : am_at cX2_takeAfter 102 (.iload_n 2) 1 103 := by decide +kernel
theorem dX2_takeAfter_103 : am_at cX2_takeAfter 103 (.iaload) 1 104 := by decide +kernel
theorem dX2_takeAfter_104 : am_at cX2_takeAfter 104 (.iastore) 1 105 := by decide +kernel
theorem dX2_takeAfter_105 : am_at cX2_takeAfter 105 (.iinc 2 1) 3 108 := by decide +kernel
theorem dX2_takeAfter_108 : am_at cX2_takeAfter 108 (.goto (-35)) 3 111 := by decide +kernel
theorem dX2_takeAfter_111 : am_at cX2_takeAfter 111 (.aload_n 0) 1 112 := by decide +kernel
theorem dX2_takeAfter_112 : am_at cX2_takeAfter 112 (.aload_n 1) 1 113 := by decide +kernel
theorem dX2_takeAfter_113 : am_at cX2_takeAfter 113 (.getfield 41) 3 116 := by decide +kernel
theorem dX2_takeAfter_116 : am_at cX2_takeAfter 116 (.putfield 41) 3 119 := by decide +kernel
theorem dX2_takeAfter_119 : am_at cX2_takeAfter 119 (.iconst 0) 1 120 := by decide +kernel
theorem dX2_takeAfter_120 : am_at cX2_takeAfter 120 (.istore_n 2) 1 121 := by decide +kernel
theorem dX2_takeAfter_121 : am_at cX2_takeAfter 121 (.iload_n 2) 1 122 := by decide +kernel
theorem dX2_takeAfter_122 : am_at cX2_takeAfter 122 (.iconst 3) 1 123 := by decide +kernel
theorem dX2_takeAfter_123 : am_at cX2_takeAfter 123 (.if_icmp .ge 21) 3 126 := by decide +kernel
theorem dX2_takeAfter_126 : am_at cX2_takeAfter 126 (.aload_n 0) 1 127 := by decide +kernel
theorem dX2_takeAfter_127 : am_at cX2_takeAfter 127 (.getfield 44) 3 130 := by decide +kernel
theorem dX2_takeAfter_130 : am_at cX2_takeAfter 130 (.iload_n 2) 1 131 := by decide +kernel
theorem dX2_takeAfter_131 : am_at cX2_takeAfter 131 (.aload_n 1) 1 132 := by decide +kernel
theorem dX2_takeAfter_132 : am_at cX2_takeAfter 132 (.getfield 44) 3 135 := by decide +kernel
theorem dX2_takeAfter_135 : am_at cX2_takeAfter 135 (.iload_n 2) 1 136 := by decide +kernel
theorem dX2_takeAfter_136 : am_at cX2_takeAfter 136 (.iaload) 1 137 := by decide +kernel
theorem dX2_takeAfter_137 : am_at cX2_takeAfter 137 (.iastore) 1 138 := by decide +kernel
theorem dX2_takeAfter_138 : am_at cX2_takeAfter 138 (.iinc 2 1) 3 141 := by decide +kernel
theorem dX2_takeAfter_141 : am_at cX2_takeAfter 141 (.goto (-20)) 3 144 := by decide +kernel
theorem dX2_takeAfter_144 : am_at cX2_takeAfter 144 (.return_) 1 145 := by decide +kernel
def fxX2_takeAfter_b121 : Nat → Option Nat → Option Nat → Int32 → am_H → Option (Unit × am_H)
  | 0, _, _, _, _ => none
  | n + 1, l0, l1, l2, h => if (3 : Int32) ≤ l2 then (some ((), h)) else (am_gd (am_ob h l0 2) (am_gd (am_ob h l1 2) (am_gd (am_ix h (am_gr h l1 9) 0 l2) (am_gd (am_ix h (am_gr h l0 9) 0 l2) (am_lt (am_si h (am_gr h l0 9) l2.toNatClampNeg (am_gi h (am_gr h l1 9) l2.toNatClampNeg)) (fun h17 => am_lt (l2 + 1) (fun x18 => fxX2_takeAfter_b121 n l0 l1 x18 h17)))))))
set_option maxRecDepth 100000 in
theorem sxX2_takeAfter_b121 {xs : List Int32} : ∀ (n : Nat) (l0 : Option Nat) (l1 : Option Nat) (l2 : Int32) (h : am_H), am_Sm xs am_cu mX2_takeAfter 2 0 0 121 [some (am_R l0), some (am_R l1), some (am_I l2)] [] h (fxX2_takeAfter_b121 n l0 l1 l2 h) := by
  intro n
  induction n with
  | zero => intros; exact am_none
  | succ n ih =>
    intro l0 l1 l2 h
    rw [fxX2_takeAfter_b121]
    refine am_iload_n dX2_takeAfter_121 rfl ?_
    refine am_iconst (v := 3) dX2_takeAfter_122 (by decide) ?_
    refine am_icmp_ge (tgt := 144) dX2_takeAfter_123 (by decide) (fun c19 => ?_) (fun c19 => ?_)
    · exact am_vret dX2_takeAfter_144 rfl rfl
    refine am_aload_n dX2_takeAfter_126 rfl ?_
    refine am_getR dX2_takeAfter_127 fk_RX2_44 rfl ?_
    refine am_iload_n dX2_takeAfter_130 rfl ?_
    refine am_aload_n dX2_takeAfter_131 rfl ?_
    refine am_getR dX2_takeAfter_132 fk_RX2_44 rfl ?_
    refine am_iload_n dX2_takeAfter_135 rfl ?_
    refine am_iald dX2_takeAfter_136 ?_
    refine am_iast dX2_takeAfter_137 (fun h17 => ?_)
    refine am_iinc (v := 1) (LL := fun y9 => [some (am_R l0), some (am_R l1), some (am_I y9)]) dX2_takeAfter_138 (by decide) rfl (by decide) (fun _ => rfl) (fun x18 => ?_)
    refine am_goto (tgt := 121) dX2_takeAfter_141 (by decide) ?_
    exact am_weak (ih l0 l1 x18 h17) ⟨rfl, ⟨rfl, ⟨rfl, trivial⟩⟩⟩ (Nat.le_refl _) (Nat.le_refl _)
def fxX2_takeAfter_b73 : Nat → Option Nat → Option Nat → Int32 → am_H → Option (Unit × am_H)
  | 0, _, _, _, _ => none
  | n + 1, l0, l1, l2, h => am_gd (am_ob h l0 2) (if (am_gi h l0 7) ≤ l2 then (am_gd (am_ob h l1 2) (am_gd (am_ob h l0 2) (am_lt (am_si h l0 8 (am_gi h l1 8)) (fun h11 => am_lt (0 : Int32) (fun x12 => fxX2_takeAfter_b121 am_F l0 l1 x12 h11))))) else (am_gd (am_ob h l0 2) (am_gd (am_ob h l1 2) (am_gd (am_ix h (am_gr h l1 5) 0 l2) (am_gd (am_ix h (am_gr h l0 5) 0 l2) (am_lt (am_si h (am_gr h l0 5) l2.toNatClampNeg (am_gi h (am_gr h l1 5) l2.toNatClampNeg)) (fun h13 => am_gd (am_ob h13 l0 2) (am_gd (am_ob h13 l1 2) (am_gd (am_ix h13 (am_gr h13 l1 6) 0 l2) (am_gd (am_ix h13 (am_gr h13 l0 6) 0 l2) (am_lt (am_si h13 (am_gr h13 l0 6) l2.toNatClampNeg (am_gi h13 (am_gr h13 l1 6) l2.toNatClampNeg)) (fun h14 => am_lt (l2 + 1) (fun x15 => fxX2_takeAfter_b73 n l0 l1 x15 h14)))))))))))))
set_option maxRecDepth 100000 in
theorem sxX2_takeAfter_b73 {xs : List Int32} : ∀ (n : Nat) (l0 : Option Nat) (l1 : Option Nat) (l2 : Int32) (h : am_H), am_Sm xs am_cu mX2_takeAfter 2 0 0 73 [some (am_R l0), some (am_R l1), some (am_I l2)] [] h (fxX2_takeAfter_b73 n l0 l1 l2 h) := by
  intro n
  induction n with
  | zero => intros; exact am_none
  | succ n ih =>
    intro l0 l1 l2 h
    rw [fxX2_takeAfter_b73]
    refine am_iload_n dX2_takeAfter_73 rfl ?_
    refine am_aload_n dX2_takeAfter_74 rfl ?_
    refine am_getI dX2_takeAfter_75 fk_RX2_38 rfl ?_
    refine am_icmp_ge (tgt := 111) dX2_takeAfter_78 (by decide) (fun c16 => ?_) (fun c16 => ?_)
    · refine am_aload_n dX2_takeAfter_111 rfl ?_
      refine am_aload_n dX2_takeAfter_112 rfl ?_
      refine am_getI dX2_takeAfter_113 fk_RX2_41 rfl ?_
      refine am_putI dX2_takeAfter_116 fk_RX2_41 ⟨_, rfl, Or.inl rfl⟩ rfl (fun h11 => ?_)
      refine am_iconst (v := 0) dX2_takeAfter_119 (by decide) ?_
      refine am_istore_n (LL := fun y9 => [some (am_R l0), some (am_R l1), some (am_I y9)]) dX2_takeAfter_120 (by decide) (fun _ => rfl) (fun x12 => ?_)
      exact am_weak (sxX2_takeAfter_b121 am_F l0 l1 x12 h11) ⟨rfl, ⟨rfl, ⟨rfl, trivial⟩⟩⟩ (Nat.le_refl _) (Nat.le_refl _)
    refine am_aload_n dX2_takeAfter_81 rfl ?_
    refine am_getR dX2_takeAfter_82 fk_RX2_31 rfl ?_
    refine am_iload_n dX2_takeAfter_85 rfl ?_
    refine am_aload_n dX2_takeAfter_86 rfl ?_
    refine am_getR dX2_takeAfter_87 fk_RX2_31 rfl ?_
    refine am_iload_n dX2_takeAfter_90 rfl ?_
    refine am_iald dX2_takeAfter_91 ?_
    refine am_iast dX2_takeAfter_92 (fun h13 => ?_)
    refine am_aload_n dX2_takeAfter_93 rfl ?_
    refine am_getR dX2_takeAfter_94 fk_RX2_35 rfl ?_
    refine am_iload_n dX2_takeAfter_97 rfl ?_
    refine am_aload_n dX2_takeAfter_98 rfl ?_
    refine am_getR dX2_takeAfter_99 fk_RX2_35 rfl ?_
    refine am_iload_n dX2_takeAfter_102 rfl ?_
    refine am_iald dX2_takeAfter_103 ?_
    refine am_iast dX2_takeAfter_104 (fun h14 => ?_)
    refine am_iinc (v := 1) (LL := fun y9 => [some (am_R l0), some (am_R l1), some (am_I y9)]) dX2_takeAfter_105 (by decide) rfl (by decide) (fun _ => rfl) (fun x15 => ?_)
    refine am_goto (tgt := 73) dX2_takeAfter_108 (by decide) ?_
    exact am_weak (ih l0 l1 x15 h14) ⟨rfl, ⟨rfl, ⟨rfl, trivial⟩⟩⟩ (Nat.le_refl _) (Nat.le_refl _)
def fxX2_takeAfter_b10 : Nat → Option Nat → Option Nat → Int32 → am_H → Option (Unit × am_H)
  | 0, _, _, _, _ => none
  | n + 1, l0, l1, l2, h => am_gd (am_ob h l0 2) (if (am_gi h l0 1) ≤ l2 then (am_gd (am_ob h l1 2) (am_gd (am_ob h l0 2) (am_lt (am_si h l0 2 (am_gi h l1 2)) (fun h3 => am_gd (am_ob h3 l1 2) (am_gd (am_ob h3 l0 2) (am_lt (am_si h3 l0 3 (am_gi h3 l1 3)) (fun h4 => am_gd (am_ob h4 l1 2) (am_gd (am_ob h4 l0 2) (am_lt (am_si h4 l0 4 (am_gi h4 l1 4)) (fun h5 => am_gd (am_ob h5 l1 2) (am_gd (am_ob h5 l0 2) (am_lt (am_si h5 l0 7 (am_gi h5 l1 7)) (fun h6 => am_lt (0 : Int32) (fun x7 => fxX2_takeAfter_b73 am_F l0 l1 x7 h6)))))))))))))) else (am_gd (am_ob h l0 2) (am_gd (am_ix h (am_gr h l0 0) 3 l2) (am_gd (am_ob h l1 2) (am_gd (am_ix h (am_gr h l1 0) 3 l2) (am_gd (am_ob h (am_gr h (am_gr h l0 0) l2.toNatClampNeg) 1) (am_bd (fxX1_takeAfter (am_gr h (am_gr h l0 0) l2.toNatClampNeg) (am_gr h (am_gr h l1 0) l2.toNatClampNeg) h) (fun _ h8 => am_lt (l2 + 1) (fun x9 => fxX2_takeAfter_b10 n l0 l1 x9 h8)))))))))
set_option maxRecDepth 100000 in
theorem sxX2_takeAfter_b10 {xs : List Int32} : ∀ (n : Nat) (l0 : Option Nat) (l1 : Option Nat) (l2 : Int32) (h : am_H), am_Sm xs am_cu mX2_takeAfter 2 0 0 10 [some (am_R l0), some (am_R l1), some (am_I l2)] [] h (fxX2_takeAfter_b10 n l0 l1 l2 h) := by
  intro n
  induction n with
  | zero => intros; exact am_none
  | succ n ih =>
    intro l0 l1 l2 h
    rw [fxX2_takeAfter_b10]
    refine am_iload_n dX2_takeAfter_10 rfl ?_
    refine am_aload_n dX2_takeAfter_11 rfl ?_
    refine am_getI dX2_takeAfter_12 fk_RX2_18 rfl ?_
    refine am_icmp_ge (tgt := 39) dX2_takeAfter_15 (by decide) (fun c10 => ?_) (fun c10 => ?_)
    · refine am_aload_n dX2_takeAfter_39 rfl ?_
      refine am_aload_n dX2_takeAfter_40 rfl ?_
      refine am_getI dX2_takeAfter_41 fk_RX2_22 rfl ?_
      refine am_putI dX2_takeAfter_44 fk_RX2_22 ⟨_, rfl, Or.inl rfl⟩ rfl (fun h3 => ?_)
      refine am_aload_n dX2_takeAfter_47 rfl ?_
      refine am_aload_n dX2_takeAfter_48 rfl ?_
      refine am_getI dX2_takeAfter_49 fk_RX2_25 rfl ?_
      refine am_putI dX2_takeAfter_52 fk_RX2_25 ⟨_, rfl, Or.inl rfl⟩ rfl (fun h4 => ?_)
      refine am_aload_n dX2_takeAfter_55 rfl ?_
      refine am_aload_n dX2_takeAfter_56 rfl ?_
      refine am_getI dX2_takeAfter_57 fk_RX2_28 rfl ?_
      refine am_putI dX2_takeAfter_60 fk_RX2_28 ⟨_, rfl, Or.inl rfl⟩ rfl (fun h5 => ?_)
      refine am_aload_n dX2_takeAfter_63 rfl ?_
      refine am_aload_n dX2_takeAfter_64 rfl ?_
      refine am_getI dX2_takeAfter_65 fk_RX2_38 rfl ?_
      refine am_putI dX2_takeAfter_68 fk_RX2_38 ⟨_, rfl, Or.inl rfl⟩ rfl (fun h6 => ?_)
      refine am_iconst (v := 0) dX2_takeAfter_71 (by decide) ?_
      refine am_istore_n (LL := fun y9 => [some (am_R l0), some (am_R l1), some (am_I y9)]) dX2_takeAfter_72 (by decide) (fun _ => rfl) (fun x7 => ?_)
      exact am_weak (sxX2_takeAfter_b73 am_F l0 l1 x7 h6) ⟨rfl, ⟨rfl, ⟨rfl, trivial⟩⟩⟩ (Nat.le_refl _) (Nat.le_refl _)
    refine am_aload_n dX2_takeAfter_18 rfl ?_
    refine am_getR dX2_takeAfter_19 fk_RX2_11 rfl ?_
    refine am_iload_n dX2_takeAfter_22 rfl ?_
    refine am_aald (t := 3) dX2_takeAfter_23 (by decide) (by decide) ?_
    refine am_aload_n dX2_takeAfter_24 rfl ?_
    refine am_getR dX2_takeAfter_25 fk_RX2_11 rfl ?_
    refine am_iload_n dX2_takeAfter_28 rfl ?_
    refine am_aald (t := 3) dX2_takeAfter_29 (by decide) (by decide) ?_
    refine am_callV (cvj := am_cu) (mtj := mX1_takeAfter) (dj := 1) (nj := 1) (rcj := 0) (rsj := 0) (rc' := 0) (rs' := 0) (ci := 1) (st' := fun _ => []) ⟨_, rfl, rfl⟩ [am_R (am_gr h (am_gr h l1 0) l2.toNatClampNeg)] [] dX2_takeAfter_30 okX1_takeAfter lk_RX2_47 (fun zA zH zE => txX1_takeAfter (am_gr h (am_gr h l0 0) l2.toNatClampNeg) (am_gr h (am_gr h l1 0) l2.toNatClampNeg) h zA zH zE) rfl (fun _ => rfl) (by decide) rfl (Nat.le_of_ble_eq_true rfl) (by decide) (by decide) (fun _ h8 => ?_)
    refine am_iinc (v := 1) (LL := fun y9 => [some (am_R l0), some (am_R l1), some (am_I y9)]) dX2_takeAfter_33 (by decide) rfl (by decide) (fun _ => rfl) (fun x9 => ?_)
    refine am_goto (tgt := 10) dX2_takeAfter_36 (by decide) ?_
    exact am_weak (ih l0 l1 x9 h8) ⟨rfl, ⟨rfl, ⟨rfl, trivial⟩⟩⟩ (Nat.le_refl _) (Nat.le_refl _)
def fxX2_takeAfter (l0 : Option Nat) (l1 : Option Nat) (h : am_H) : Option (Unit × am_H) := am_gd (am_ob h l1 2) (am_gd (am_ob h l0 2) (am_lt (am_si h l0 1 (am_gi h l1 1)) (fun h1 => am_lt (0 : Int32) (fun x2 => fxX2_takeAfter_b10 am_F l0 l1 x2 h1))))
set_option maxRecDepth 100000 in
theorem sxX2_takeAfter {xs : List Int32} (l0 : Option Nat) (l1 : Option Nat) (h : am_H) : am_Sm xs am_cu mX2_takeAfter 2 0 0 0 [some (am_R l0), some (am_R l1), none] [] h (fxX2_takeAfter l0 l1 h) := by
  unfold fxX2_takeAfter
  refine am_aload_n dX2_takeAfter_0 rfl ?_
  refine am_aload_n dX2_takeAfter_1 rfl ?_
  refine am_getI dX2_takeAfter_2 fk_RX2_18 rfl ?_
  refine am_putI dX2_takeAfter_5 fk_RX2_18 ⟨_, rfl, Or.inl rfl⟩ rfl (fun h1 => ?_)
  refine am_iconst (v := 0) dX2_takeAfter_8 (by decide) ?_
  refine am_istore_n (LL := fun y9 => [some (am_R l0), some (am_R l1), some (am_I y9)]) dX2_takeAfter_9 (by decide) (fun _ => rfl) (fun x2 => ?_)
  exact am_weak (sxX2_takeAfter_b10 am_F l0 l1 x2 h1) ⟨rfl, ⟨rfl, ⟨rfl, trivial⟩⟩⟩ (Nat.le_refl _) (Nat.le_refl _)
theorem txX2_takeAfter {xs : List Int32} (l0 : Option Nat) (l1 : Option Nat) (h : am_H) (a : Unit) (h2 : am_H) (e : fxX2_takeAfter l0 l1 h = some (a, h2)) : am_Ct xs mX2_takeAfter 2 0 0 [am_R l0, am_R l1] h (fun v h3 => v = am_cu a ∧ h3 = h2) := am_meth okX2_takeAfter (Nat.le_of_ble_eq_true rfl) rfl (sxX2_takeAfter l0 l1 h) e
