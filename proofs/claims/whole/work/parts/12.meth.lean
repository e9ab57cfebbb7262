theorem dX2_hasGlove_0 : am_at cX2_hasGlove 0 (.iload_n 1) 1 1 := by decide +kernel
theorem dX2_hasGlove_1 : am_at cX2_hasGlove 1 (.iconst 0) 1 2 := by decide +kernel
theorem dX2_hasGlove_2 : am_at cX2_hasGlove 2 (.aload_n 0) 1 3 := by decide +kernel
theorem dX2_hasGlove_3 : am_at cX2_hasGlove 3 (.getfield 18) 3 6 := by decide +kernel
theorem dX2_hasGlove_6 : am_at cX2_hasGlove 6 (.iconst 1) 1 7 := by decide +kernel
theorem dX2_hasGlove_7 : am_at cX2_hasGlove 7 (.isub) 1 8 := by decide +kernel
theorem dX2_hasGlove_8 : am_at cX2_hasGlove 8 (.invokestatic 51) 3 11 := by decide +kernel
theorem dX2_hasGlove_11 : am_at cX2_hasGlove 11 (.ireturn) 1 12 := by decide +kernel
def fxX2_hasGlove (l0 : Option Nat) (l1 : Int32) (h : am_H) : Option (Int32 × am_H) := am_gd (am_ob h l0 2) (am_bd (fxX9_within l1 (0 : Int32) ((am_gi h l0 1) - (1 : Int32)) h) (fun r1 h2 => am_gd (am_bz r1) (some (r1, h2))))
set_option maxRecDepth 100000 in
theorem sxX2_hasGlove {xs : List Int32} (l0 : Option Nat) (l1 : Int32) (h : am_H) : am_Sm xs am_ci mX2_hasGlove 1 0 0 0 [some (am_R l0), some (am_I l1)] [] h (fxX2_hasGlove l0 l1 h) := by
  unfold fxX2_hasGlove
  refine am_iload_n dX2_hasGlove_0 rfl ?_
  refine am_iconst (v := 0) dX2_hasGlove_1 (by decide) ?_
  refine am_aload_n dX2_hasGlove_2 rfl ?_
  refine am_getI dX2_hasGlove_3 fk_RX2_18 rfl ?_
  refine am_iconst (v := 1) dX2_hasGlove_6 (by decide) ?_
  refine am_isub dX2_hasGlove_7 ?_
  refine am_callS (cvj := am_ci) (mtj := mX9_within) (dj := 0) (nj := 3) (rcj := 0) (rsj := 0) (rc' := 0) (rs' := 0) (st' := fun a9 => (am_I a9 :: [])) [am_I l1, am_I (0 : Int32), am_I ((am_gi h l0 1) - (1 : Int32))] [] dX2_hasGlove_8 okX9_within lk_RX2_51 (fun zA zH zE => txX9_within l1 (0 : Int32) ((am_gi h l0 1) - (1 : Int32)) h zA zH zE) rfl (fun _ => rfl) (by decide) rfl (Nat.le_of_ble_eq_true rfl) (by decide) (by decide) (fun r1 h2 => ?_)
  exact am_zret dX2_hasGlove_11 rfl rfl
theorem txX2_hasGlove {xs : List Int32} (l0 : Option Nat) (l1 : Int32) (h : am_H) (a : Int32) (h2 : am_H) (e : fxX2_hasGlove l0 l1 h = some (a, h2)) : am_Ct xs mX2_hasGlove 1 0 0 [am_R l0, am_I l1] h (fun v h3 => v = am_ci a ∧ h3 = h2) := am_meth okX2_hasGlove (Nat.le_of_ble_eq_true rfl) rfl (sxX2_hasGlove l0 l1 h) e
theorem dX2_allGloves_0 : am_at cX2_allGloves 0 (.iconst 1) 1 1 := by decide +kernel
theorem dX2_allGloves_1 : am_at cX2_allGloves 1 (.aload_n 0) 1 2 := by decide +kernel
theorem dX2_allGloves_2 : am_at cX2_allGloves 2 (.getfield 18) 3 5 := by decide +kernel
theorem dX2_allGloves_5 : am_at cX2_allGloves 5 (.ishl) 1 6 := by decide +kernel
theorem dX2_allGloves_6 : am_at cX2_allGloves 6 (.iconst 1) 1 7 := by decide +kernel
theorem dX2_allGloves_7 : am_at cX2_allGloves 7 (.isub) 1 8 := by decide +kernel
theorem dX2_allGloves_8 : am_at cX2_allGloves 8 (.ireturn) 1 9 := by decide +kernel
def fxX2_allGloves (l0 : Option Nat) (h : am_H) : Option (Int32 × am_H) := am_gd (am_ob h l0 2) (some ((((1 : Int32) <<< ((am_gi h l0 1) &&& 31)) - (1 : Int32)), h))
set_option maxRecDepth 100000 in
theorem sxX2_allGloves {xs : List Int32} (l0 : Option Nat) (h : am_H) : am_Sm xs am_ci mX2_allGloves 0 0 0 0 [some (am_R l0)] [] h (fxX2_allGloves l0 h) := by
  unfold fxX2_allGloves
  refine am_iconst (v := 1) dX2_allGloves_0 (by decide) ?_
  refine am_aload_n dX2_allGloves_1 rfl ?_
  refine am_getI dX2_allGloves_2 fk_RX2_18 rfl ?_
  refine am_ishl dX2_allGloves_5 ?_
  refine am_iconst (v := 1) dX2_allGloves_6 (by decide) ?_
  refine am_isub dX2_allGloves_7 ?_
  exact am_iret dX2_allGloves_8 rfl rfl
theorem txX2_allGloves {xs : List Int32} (l0 : Option Nat) (h : am_H) (a : Int32) (h2 : am_H) (e : fxX2_allGloves l0 h = some (a, h2)) : am_Ct xs mX2_allGloves 0 0 0 [am_R l0] h (fun v h3 => v = am_ci a ∧ h3 = h2) := am_meth okX2_allGloves (Nat.le_of_ble_eq_true rfl) rfl (sxX2_allGloves l0 h) e
theorem dX2_addGlove_0 : am_at cX2_addGlove 0 (.aload_n 0) 1 1 := by decide +kernel
theorem dX2_addGlove_1 : am_at cX2_addGlove 1 (.getfield 18) 3 4 := by decide +kernel
theorem dX2_addGlove_4 : am_at cX2_addGlove 4 (.istore 5) 2 6 := by decide +kernel
theorem dX2_addGlove_6 : am_at cX2_addGlove 6 (.iload 5) 2 8 := by decide +kernel
theorem dX2_addGlove_8 : am_at cX2_addGlove 8 (.bipush 10) 2 10 := by decide +kernel
theorem dX2_addGlove_10 : am_at cX2_addGlove 10 (.if_icmp .lt 6) 3 13 := by decide +kernel
theorem dX2_addGlove_13 : am_at cX2_addGlove 13 (.ldc 55) 2 15 := by decide +kernel
theorem dX2_addGlove_15 : am_at cX2_addGlove 15 (.ireturn) 1 16 := by decide +kernel
theorem dX2_addGlove_16 : am_at cX2_addGlove 16 (.aload_n 0) 1 17 := by decide +kernel
theorem dX2_addGlove_17 : am_at cX2_addGlove 17 (.getfield 11) 3 20 := by decide +kernel
theorem dX2_addGlove_20 : am_at cX2_addGlove 20 (.iload 5) 2 22 := by decide +kernel
theorem dX2_addGlove_22 : am_at cX2_addGlove 22 (.aaload) 1 23 := by decide +kernel
theorem dX2_addGlove_23 : am_at cX2_addGlove 23 (.iload_n 1) 1 24 := by decide +kernel
theorem dX2_addGlove_24 : am_at cX2_addGlove 24 (.iload_n 2) 1 25 := by decide +kernel
theorem dX2_addGlove_25 : am_at cX2_addGlove 25 (.iload_n 3) 1 26 := by decide +kernel
theorem dX2_addGlove_26 : am_at cX2_addGlove 26 (.iload 4) 2 28 := by decide +kernel
theorem dX2_addGlove_28 : am_at cX2_addGlove 28 (.invokevirtual 56) 3 31 := by decide +kernel
theorem dX2_addGlove_31 : am_at cX2_addGlove 31 (.aload_n 0) 1 32 := by decide +kernel
theorem dX2_addGlove_32 : am_at cX2_addGlove 32 (.dup) 1 33 := by decide +kernel
theorem dX2_addGlove_33 : am_at cX2_addGlove 33 (.getfield 18) 3 36 := by decide +kernel
theorem dX2_addGlove_36 : am_at cX2_addGlove 36 (.iconst 1) 1 37 := by decide +kernel
theorem dX2_addGlove_37 : am_at cX2_addGlove 37 (.iadd) 1 38 := by decide +kernel
theorem dX2_addGlove_38 : am_at cX2_addGlove 38 (.putfield 18) 3 41 := by decide +kernel
theorem dX2_addGlove_41 : am_at cX2_addGlove 41 (.iload 5) 2 43 := by decide +kernel
theorem dX2_addGlove_43 : am_at cX2_addGlove 43 (.ireturn) 1 44 := by decide +kernel
def fxX2_addGlove (l0 : Option Nat) (l1 : Int32) (l2 : Int32) (l3 : Int32) (l4 : Int32) (h : am_H) : Option (Int32 × am_H) := am_gd (am_ob h l0 2) (am_lt (am_gi h l0 1) (fun x1 => if x1 < (10 : Int32) then (am_gd (am_ob h l0 2) (am_gd (am_ix h (am_gr h l0 0) 3 x1) (am_gd (am_ob h (am_gr h (am_gr h l0 0) x1.toNatClampNeg) 1) (am_bd (fxX1_become (am_gr h (am_gr h l0 0) x1.toNatClampNeg) l1 l2 l3 l4 h) (fun _ h2 => am_gd (am_ob h2 l0 2) (am_gd (am_ob h2 l0 2) (am_lt (am_si h2 l0 1 ((am_gi h2 l0 1) + (1 : Int32))) (fun h3 => some (x1, h3))))))))) else (some ((-1000000003 : Int32), h))))
set_option maxRecDepth 100000 in
theorem sxX2_addGlove {xs : List Int32} (l0 : Option Nat) (l1 : Int32) (l2 : Int32) (l3 : Int32) (l4 : Int32) (h : am_H) : am_Sm xs am_ci mX2_addGlove 1 0 0 0 [some (am_R l0), some (am_I l1), some (am_I l2), some (am_I l3), some (am_I l4), none] [] h (fxX2_addGlove l0 l1 l2 l3 l4 h) := by
  unfold fxX2_addGlove
  refine am_aload_n dX2_addGlove_0 rfl ?_
  refine am_getI dX2_addGlove_1 fk_RX2_18 rfl ?_
  refine am_istore (LL := fun y9 => [some (am_R l0), some (am_I l1), some (am_I l2), some (am_I l3), some (am_I l4), some (am_I y9)]) dX2_addGlove_4 (by decide) (fun _ => rfl) (fun x1 => ?_)
  refine am_iload dX2_addGlove_6 rfl ?_
  refine am_bipush (v := 10) dX2_addGlove_8 (by decide) ?_
  refine am_icmp_lt (tgt := 16) dX2_addGlove_10 (by decide) (fun c4 => ?_) (fun c4 => ?_)
  · refine am_aload_n dX2_addGlove_16 rfl ?_
    refine am_getR dX2_addGlove_17 fk_RX2_11 rfl ?_
    refine am_iload dX2_addGlove_20 rfl ?_
    refine am_aald (t := 3) dX2_addGlove_22 (by decide) (by decide) ?_
    refine am_iload_n dX2_addGlove_23 rfl ?_
    refine am_iload_n dX2_addGlove_24 rfl ?_
    refine am_iload_n dX2_addGlove_25 rfl ?_
    refine am_iload dX2_addGlove_26 rfl ?_
    refine am_callV (cvj := am_cu) (mtj := mX1_become) (dj := 0) (nj := 4) (rcj := 0) (rsj := 0) (rc' := 0) (rs' := 0) (ci := 1) (st' := fun _ => []) ⟨_, rfl, rfl⟩ [am_I l1, am_I l2, am_I l3, am_I l4] [] dX2_addGlove_28 okX1_become lk_RX2_56 (fun zA zH zE => txX1_become (am_gr h (am_gr h l0 0) x1.toNatClampNeg) l1 l2 l3 l4 h zA zH zE) rfl (fun _ => rfl) (by decide) rfl (Nat.le_of_ble_eq_true rfl) (by decide) (by decide) (fun _ h2 => ?_)
    refine am_aload_n dX2_addGlove_31 rfl ?_
    refine am_dup dX2_addGlove_32 ?_
    refine am_getI dX2_addGlove_33 fk_RX2_18 rfl ?_
    refine am_iconst (v := 1) dX2_addGlove_36 (by decide) ?_
    refine am_iadd dX2_addGlove_37 ?_
    refine am_putI dX2_addGlove_38 fk_RX2_18 ⟨_, rfl, Or.inl rfl⟩ rfl (fun h3 => ?_)
    refine am_iload dX2_addGlove_41 rfl ?_
    exact am_iret dX2_addGlove_43 rfl rfl
  refine am_ldc (v := (-1000000003)) dX2_addGlove_13 wd321 ?_
  exact am_iret dX2_addGlove_15 rfl rfl
theorem txX2_addGlove {xs : List Int32} (l0 : Option Nat) (l1 : Int32) (l2 : Int32) (l3 : Int32) (l4 : Int32) (h : am_H) (a : Int32) (h2 : am_H) (e : fxX2_addGlove l0 l1 l2 l3 l4 h = some (a, h2)) : am_Ct xs mX2_addGlove 1 0 0 [am_R l0, am_I l1, am_I l2, am_I l3, am_I l4] h (fun v h3 => v = am_ci a ∧ h3 = h2) := am_meth okX2_addGlove (Nat.le_of_ble_eq_true rfl) rfl (sxX2_addGlove l0 l1 l2 l3 l4 h) e
theorem dX2_draw_0 : am_at cX2_draw 0 (.aload_n 0) 1 1 := by decide +kernel
theorem dX2_draw_1 : am_at cX2_draw 1 (.aload_n 0) 1 2 := by decide +kernel
theorem dX2_draw_2 : am_at cX2_draw 2 (.getfield 28) 3 5 := by decide +kernel
theorem dX2_draw_5 : am_at cX2_draw 5 (.ldc 68) 2 7 := by decide +kernel
theorem dX2_draw_7 : am_at cX2_draw 7 (.imul) 1 8 := by decide +kernel
theorem dX2_draw_8 : am_at cX2_draw 8 (.sipush 12345) 3 11 := by decide +kernel
theorem dX2_draw_11 : am_at cX2_draw 11 (.iadd) 1 12 := by decide +kernel
theorem dX2_draw_12 : am_at cX2_draw 12 (.putfield 28) 3 15 := by decide +kernel
theorem dX2_draw_15 : am_at cX2_draw 15 (.aload_n 0) 1 16 := by decide +kernel
theorem dX2_draw_16 : am_at cX2_draw 16 (.getfield 28) 3 19 := by decide +kernel
theorem dX2_draw_19 : am_at cX2_draw 19 (.bipush 8) 2 21 := by decide +kernel
theorem dX2_draw_21 : am_at cX2_draw 21 (.iushr) 1 22 := by decide +kernel
theorem dX2_draw_22 : am_at cX2_draw 22 (.ireturn) 1 23 := by decide +kernel
def fxX2_draw (l0 : Option Nat) (h : am_H) : Option (Int32 × am_H) := am_gd (am_ob h l0 2) (am_gd (am_ob h l0 2) (am_lt (am_si h l0 4 (((am_gi h l0 4) * (1103515245 : Int32)) + (12345 : Int32))) (fun h1 => am_gd (am_ob h1 l0 2) (some ((am_ush (am_gi h1 l0 4) (8 : Int32)), h1)))))
set_option maxRecDepth 100000 in
theorem sxX2_draw {xs : List Int32} (l0 : Option Nat) (h : am_H) : am_Sm xs am_ci mX2_draw 0 0 0 0 [some (am_R l0)] [] h (fxX2_draw l0 h) := by
  unfold fxX2_draw
  refine am_aload_n dX2_draw_0 rfl ?_
  refine am_aload_n dX2_draw_1 rfl ?_
  refine am_getI dX2_draw_2 fk_RX2_28 rfl ?_
  refine am_ldc (v := 1103515245) dX2_draw_5 wd442 ?_
  refine am_imul dX2_draw_7 ?_
  refine am_sipush (v := 12345) dX2_draw_8 (by decide) ?_
  refine am_iadd dX2_draw_11 ?_
  refine am_putI dX2_draw_12 fk_RX2_28 ⟨_, rfl, Or.inl rfl⟩ rfl (fun h1 => ?_)
  refine am_aload_n dX2_draw_15 rfl ?_
  refine am_getI dX2_draw_16 fk_RX2_28 rfl ?_
  refine am_bipush (v := 8) dX2_draw_19 (by decide) ?_
  refine am_iushr dX2_draw_21 ?_
  exact am_iret dX2_draw_22 rfl rfl
theorem txX2_draw {xs : List Int32} (l0 : Option Nat) (h : am_H) (a : Int32) (h2 : am_H) (e : fxX2_draw l0 h = some (a, h2)) : am_Ct xs mX2_draw 0 0 0 [am_R l0] h (fun v h3 => v = am_ci a ∧ h3 = h2) := am_meth okX2_draw (Nat.le_of_ble_eq_true rfl) rfl (sxX2_draw l0 h) e
theorem dX2_drawGlove_0 : am_at cX2_drawGlove 0 (.aload_n 0) 1 1 := by decide +kernel
theorem dX2_drawGlove_1 : am_at cX2_drawGlove 1 (.invokevirtual 60) 3 4 := by decide +kernel
theorem dX2_drawGlove_4 : am_at cX2_drawGlove 4 (.bipush 6) 2 6 := by decide +kernel
theorem dX2_drawGlove_6 : am_at cX2_drawGlove 6 (.irem) 1 7 := by decide +kernel
theorem dX2_drawGlove_7 : am_at cX2_drawGlove 7 (.istore_n 1) 1 8 := by decide +kernel
theorem dX2_drawGlove_8 : am_at cX2_drawGlove 8 (.aload_n 0) 1 9 := by decide +kernel
theorem dX2_drawGlove_9 : am_at cX2_drawGlove 9 (.invokevirtual 60) 3 12 := by decide +kernel
theorem dX2_drawGlove_12 : am_at cX2_drawGlove 12 (.iconst 2) 1 13 := by decide +kernel
theorem dX2_drawGlove_13 : am_at cX2_drawGlove 13 (.irem) 1 14 := by decide +kernel
theorem dX2_drawGlove_14 : am_at cX2_drawGlove 14 (.istore_n 2) 1 15 := by decide +kernel
theorem dX2_drawGlove_15 : am_at cX2_drawGlove 15 (.aload_n 0) 1 16 := by decide +kernel
theorem dX2_drawGlove_16 : am_at cX2_drawGlove 16 (.invokevirtual 60) 3 19 := by decide +kernel
theorem dX2_drawGlove_19 : am_at cX2_drawGlove 19 (.bipush 10) 2 21 := by decide +kernel
theorem dX2_drawGlove_21 : am_at cX2_drawGlove 21 (.irem) 1 22 := by decide +kernel
theorem dX2_drawGlove_22 : am_at cX2_drawGlove 22 (.istore_n 3) 1 23 := by decide +kernel
theorem dX2_drawGlove_23 : am_at cX2_drawGlove 23 (.aload_n 0) 1 24 := by decide +kernel
theorem dX2_drawGlove_24 : am_at cX2_drawGlove 24 (.invokevirtual 60) 3 27 := by decide +kernel
theorem dX2_drawGlove_27 : am_at cX2_drawGlove 27 (.bipush 100) 2 29 := by decide +kernel
theorem dX2_drawGlove_29 : am_at cX2_drawGlove 29 (.irem) 1 30 := by decide +kernel
theorem dX2_drawGlove_30 : am_at cX2_drawGlove 30 (.istore 4) 2 32 := by decide +kernel
theorem dX2_drawGlove_32 : am_at cX2_drawGlove 32 (.aload_n 0) 1 33 := by decide +kernel
theorem dX2_drawGlove_33 : am_at cX2_drawGlove 33 (.iload_n 1) 1 34 := by decide +kernel
theorem dX2_drawGlove_34 : am_at cX2_drawGlove 34 (.iload_n 2) 1 35 := by decide +kernel
theorem dX2_drawGlove_35 : am_at cX2_drawGlove 35 (.iload_n 3) 1 36 := by decide +kernel
theorem dX2_drawGlove_36 : am_at cX2_drawGlove 36 (.iload 4) 2 38 := by decide +kernel
theorem dX2_drawGlove_38 : am_at cX2_drawGlove 38 (.invokevirtual 64) 3 41 := by decide +kernel
theorem dX2_drawGlove_41 : am_at cX2_drawGlove 41 (.pop) 1 42 := by decide +kernel
theorem dX2_drawGlove_42 : am_at cX2_drawGlove 42 (.return_) 1 43 := by decide +kernel
def fxX2_drawGlove (l0 : Option Nat) (h : am_H) : Option (Unit × am_H) := am_gd (am_ob h l0 2) (am_bd (fxX2_draw l0 h) (fun r1 h2 => am_gd (am_nz (6 : Int32)) (am_lt (am_rem r1 (6 : Int32)) (fun x3 => am_gd (am_ob h2 l0 2) (am_bd (fxX2_draw l0 h2) (fun r4 h5 => am_gd (am_nz (2 : Int32)) (am_lt (am_rem r4 (2 : Int32)) (fun x6 => am_gd (am_ob h5 l0 2) (am_bd (fxX2_draw l0 h5) (fun r7 h8 => am_gd (am_nz (10 : Int32)) (am_lt (am_rem r7 (10 : Int32)) (fun x9 => am_gd (am_ob h8 l0 2) (am_bd (fxX2_draw l0 h8) (fun r10 h11 => am_gd (am_nz (100 : Int32)) (am_lt (am_rem r10 (100 : Int32)) (fun x12 => am_gd (am_ob h11 l0 2) (am_bd (fxX2_addGlove l0 x3 x6 x9 x12 h11) (fun r13 h14 => some ((), h14)))))))))))))))))))
set_option maxRecDepth 100000 in
theorem sxX2_drawGlove {xs : List Int32} (l0 : Option Nat) (h : am_H) : am_Sm xs am_cu mX2_drawGlove 2 0 0 0 [some (am_R l0), none, none, none, none] [] h (fxX2_drawGlove l0 h) := by
  unfold fxX2_drawGlove
  refine am_aload_n dX2_drawGlove_0 rfl ?_
  refine am_callV (cvj := am_ci) (mtj := mX2_draw) (dj := 0) (nj := 0) (rcj := 0) (rsj := 0) (rc' := 0) (rs' := 0) (ci := 2) (st' := fun a9 => (am_I a9 :: [])) ⟨_, rfl, rfl⟩ [] [] dX2_drawGlove_1 okX2_draw lk_RX2_60 (fun zA zH zE => txX2_draw l0 h zA zH zE) rfl (fun _ => rfl) (by decide) rfl (Nat.le_of_ble_eq_true rfl) (by decide) (by decide) (fun r1 h2 => ?_)
  refine am_bipush (v := 6) dX2_drawGlove_4 (by decide) ?_
  refine am_irem dX2_drawGlove_6 ?_
  refine am_istore_n (LL := fun y9 => [some (am_R l0), some (am_I y9), none, none, none]) dX2_drawGlove_7 (by decide) (fun _ => rfl) (fun x3 => ?_)
  refine am_aload_n dX2_drawGlove_8 rfl ?_
  refine am_callV (cvj := am_ci) (mtj := mX2_draw) (dj := 0) (nj := 0) (rcj := 0) (rsj := 0) (rc' := 0) (rs' := 0) (ci := 2) (st' := fun a9 => (am_I a9 :: [])) ⟨_, rfl, rfl⟩ [] [] dX2_drawGlove_9 okX2_draw lk_RX2_60 (fun zA zH zE => txX2_draw l0 h2 zA zH zE) rfl (fun _ => rfl) (by decide) rfl (Nat.le_of_ble_eq_true rfl) (by decide) (by decide) (fun r4 h5 => ?_)
  refine am_iconst (v := 2) dX2_drawGlove_12 (by decide) ?_
  refine am_irem dX2_drawGlove_13 ?_
  refine am_istore_n (LL := fun y9 => [some (am_R l0), some (am_I x3), some (am_I y9), none, none]) dX2_drawGlove_14 (by decide) (fun _ => rfl) (fun x6 => ?_)
  refine am_aload_n dX2_drawGlove_15 rfl ?_
  refine am_callV (cvj := am_ci) (mtj := mX2_draw) (dj := 0) (nj := 0) (rcj := 0) (rsj := 0) (rc' := 0) (rs' := 0) (ci := 2) (st' := fun a9 => (am_I a9 :: [])) ⟨_, rfl, rfl⟩ [] [] dX2_drawGlove_16 okX2_draw lk_RX2_60 (fun zA zH zE => txX2_draw l0 h5 zA zH zE) rfl (fun _ => rfl) (by decide) rfl (Nat.le_of_ble_eq_true rfl) (by decide) (by decide) (fun r7 h8 => ?_)
  refine am_bipush (v := 10) dX2_drawGlove_19 (by decide) ?_
  refine am_irem dX2_drawGlove_21 ?_
  refine am_istore_n (LL := fun y9 => [some (am_R l0), some (am_I x3), some (am_I x6), some (am_I y9), none]) dX2_drawGlove_22 (by decide) (fun _ => rfl) (fun x9 => ?_)
  refine am_aload_n dX2_drawGlove_23 rfl ?_
  refine am_callV (cvj := am_ci) (mtj := mX2_draw) (dj := 0) (nj := 0) (rcj := 0) (rsj := 0) (rc' := 0) (rs' := 0) (ci := 2) (st' := fun a9 => (am_I a9 :: [])) ⟨_, rfl, rfl⟩ [] [] dX2_drawGlove_24 okX2_draw lk_RX2_60 (fun zA zH zE => txX2_draw l0 h8 zA zH zE) rfl (fun _ => rfl) (by decide) rfl (Nat.le_of_ble_eq_true rfl) (by decide) (by decide) (fun r10 h11 => ?_)
  refine am_bipush (v := 100) dX2_drawGlove_27 (by decide) ?_
  refine am_irem dX2_drawGlove_29 ?_
  refine am_istore (LL := fun y9 => [some (am_R l0), some (am_I x3), some (am_I x6), some (am_I x9), some (am_I y9)]) dX2_drawGlove_30 (by decide) (fun _ => rfl) (fun x12 => ?_)
  refine am_aload_n dX2_drawGlove_32 rfl ?_
  refine am_iload_n dX2_drawGlove_33 rfl ?_
  refine am_iload_n dX2_drawGlove_34 rfl ?_
  refine am_iload_n dX2_drawGlove_35 rfl ?_
  refine am_iload dX2_drawGlove_36 rfl ?_
  refine am_callV (cvj := am_ci) (mtj := mX2_addGlove) (dj := 1) (nj := 4) (rcj := 0) (rsj := 0) (rc' := 0) (rs' := 0) (ci := 2) (st' := fun a9 => (am_I a9 :: [])) ⟨_, rfl, rfl⟩ [am_I x3, am_I x6, am_I x9, am_I x12] [] dX2_drawGlove_38 okX2_addGlove lk_RX2_64 (fun zA zH zE => txX2_addGlove l0 x3 x6 x9 x12 h11 zA zH zE) rfl (fun _ => rfl) (by decide) rfl (Nat.le_of_ble_eq_true rfl) (by decide) (by decide) (fun r13 h14 => ?_)
  refine am_pop dX2_drawGlove_41 ?_
  exact am_vret dX2_drawGlove_42 rfl rfl
theorem txX2_drawGlove {xs : List Int32} (l0 : Option Nat) (h : am_H) (a : Unit) (h2 : am_H) (e : fxX2_drawGlove l0 h = some (a, h2)) : am_Ct xs mX2_drawGlove 2 0 0 [am_R l0] h (fun v h3 => v = am_cu a ∧ h3 = h2) := am_meth okX2_drawGlove (Nat.le_of_ble_eq_true rfl) rfl (sxX2_drawGlove l0 h) e
theorem dX2_addWorn_0 : am_at cX2_addWorn 0 (.aload_n 0) 1 1 := by decide +kernel
theorem dX2_addWorn_1 : am_at cX2_addWorn 1 (.getfield 38) 3 4 := by decide +kernel
theorem dX2_addWorn_4 : am_at cX2_addWorn 4 (.bipush 10) 2 6 := by decide +kernel
theorem dX2_addWorn_6 : am_at cX2_addWorn 6 (.if_icmp .lt 6) 3 9 := by decide +kernel
theorem dX2_addWorn_9 : am_at cX2_addWorn 9 (.ldc 55) 2 11 := by decide +kernel
theorem dX2_addWorn_11 : am_at cX2_addWorn 11 (.ireturn) 1 12 := by decide +kernel
theorem dX2_addWorn_12 : am_at cX2_addWorn 12 (.aload_n 0) 1 13 := by decide +kernel
theorem dX2_addWorn_13 : am_at cX2_addWorn 13 (.getfield 31) 3 16 := by decide +kernel
theorem dX2_addWorn_16 : am_at cX2_addWorn 16 (.aload_n 0) 1 17 := by decide +kernel
theorem dX2_addWorn_17 : am_at cX2_addWorn 17 (.getfield 38) 3 20 := by decide +kernel
theorem dX2_addWorn_20 : am_at cX2_addWorn 20 (.iload_n 1) 1 21 := by decide +kernel
theorem dX2_addWorn_21 : am_at cX2_addWorn 21 (.iastore) 1 22 := by decide +kernel
theorem dX2_addWorn_22 : am_at cX2_addWorn 22 (.aload_n 0) 1 23 := by decide +kernel
theorem dX2_addWorn_23 : am_at cX2_addWorn 23 (.getfield 35) 3 26 := by decide +kernel
theorem dX2_addWorn_26 : am_at cX2_addWorn 26 (.aload_n 0) 1 27 := by decide +kernel
theorem dX2_addWorn_27 : am_at cX2_addWorn 27 (.getfield 38) 3 30 := by decide +kernel
theorem dX2_addWorn_30 : am_at cX2_addWorn 30 (.iload_n 2) 1 31 := by decide +kernel
theorem dX2_addWorn_31 : am_at cX2_addWorn 31 (.iastore) 1 32 := by decide +kernel
theorem dX2_addWorn_32 : am_at cX2_addWorn 32 (.aload_n 0) 1 33 := by decide +kernel
theorem dX2_addWorn_33 : am_at cX2_addWorn 33 (.dup) 1 34 := by decide +kernel
theorem dX2_addWorn_34 : am_at cX2_addWorn 34 (.getfield 38) 3 37 := by decide +kernel
theorem dX2_addWorn_37 : am_at cX2_addWorn 37 (.iconst 1) 1 38 := by decide +kernel
theorem dX2_addWorn_38 : am_at cX2_addWorn 38 (.iadd) 1 39 := by decide +kernel
theorem dX2_addWorn_39 : am_at cX2_addWorn 39 (.putfield 38) 3 42 := by decide +kernel
theorem dX2_addWorn_42 : am_at cX2_addWorn 42 (.aload_n 0) 1 43 := by decide +kernel
theorem dX2_addWorn_43 : am_at cX2_addWorn 43 (.getfield 38) 3 46 := by decide +kernel
theorem dX2_addWorn_46 : am_at cX2_addWorn 46 (.ireturn) 1 47 := by decide +kernel
def fxX2_addWorn (l0 : Option Nat) (l1 : Int32) (l2 : Int32) (h : am_H) : Option (Int32 × am_H) := am_gd (am_ob h l0 2) (if (am_gi h l0 7) < (10 : Int32) then (am_gd (am_ob h l0 2) (am_gd (am_ob h l0 2) (am_gd (am_ix h (am_gr h l0 5) 0 (am_gi h l0 7)) (am_lt (am_si h (am_gr h l0 5) (am_gi h l0 7).toNatClampNeg l1) (fun h1 => am_gd (am_ob h1 l0 2) (am_gd (am_ob h1 l0 2) (am_gd (am_ix h1 (am_gr h1 l0 6) 0 (am_gi h1 l0 7)) (am_lt (am_si h1 (am_gr h1 l0 6) (am_gi h1 l0 7).toNatClampNeg l2) (fun h2 => am_gd (am_ob h2 l0 2) (am_gd (am_ob h2 l0 2) (am_lt (am_si h2 l0 7 ((am_gi h2 l0 7) + (1 : Int32))) (fun h3 => am_gd (am_ob h3 l0 2) (some ((am_gi h3 l0 7), h3)))))))))))))) else (some ((-1000000003 : Int32), h)))
set_option maxRecDepth 100000 in
theorem sxX2_addWorn {xs : List Int32} (l0 : Option Nat) (l1 : Int32) (l2 : Int32) (h : am_H) : am_Sm xs am_ci mX2_addWorn 0 0 0 0 [some (am_R l0), some (am_I l1), some (am_I l2)] [] h (fxX2_addWorn l0 l1 l2 h) := by
  unfold fxX2_addWorn
  refine am_aload_n dX2_addWorn_0 rfl ?_
  refine am_getI dX2_addWorn_1 fk_RX2_38 rfl ?_
  refine am_bipush (v := 10) dX2_addWorn_4 (by decide) ?_
  refine am_icmp_lt (tgt := 12) dX2_addWorn_6 (by decide) (fun c4 => ?_) (fun c4 => ?_)
  · refine am_aload_n dX2_addWorn_12 rfl ?_
    refine am_getR dX2_addWorn_13 fk_RX2_31 rfl ?_
    refine am_aload_n dX2_addWorn_16 rfl ?_
    refine am_getI dX2_addWorn_17 fk_RX2_38 rfl ?_
    refine am_iload_n dX2_addWorn_20 rfl ?_
    refine am_iast dX2_addWorn_21 (fun h1 => ?_)
    refine am_aload_n dX2_addWorn_22 rfl ?_
    refine am_getR dX2_addWorn_23 fk_RX2_35 rfl ?_
    refine am_aload_n dX2_addWorn_26 rfl ?_
    refine am_getI dX2_addWorn_27 fk_RX2_38 rfl ?_
    refine am_iload_n dX2_addWorn_30 rfl ?_
    refine am_iast dX2_addWorn_31 (fun h2 => ?_)
    refine am_aload_n dX2_addWorn_32 rfl ?_
    refine am_dup dX2_addWorn_33 ?_
    refine am_getI dX2_addWorn_34 fk_RX2_38 rfl ?_
    refine am_iconst (v := 1) dX2_addWorn_37 (by decide) ?_
    refine am_iadd dX2_addWorn_38 ?_
    refine am_putI dX2_addWorn_39 fk_RX2_38 ⟨_, rfl, Or.inl rfl⟩ rfl (fun h3 => ?_)
    refine am_aload_n dX2_addWorn_42 rfl ?_
    refine am_getI dX2_addWorn_43 fk_RX2_38 rfl ?_
    exact am_iret dX2_addWorn_46 rfl rfl
  refine am_ldc (v := (-1000000003)) dX2_addWorn_9 wd321 ?_
  exact am_iret dX2_addWorn_11 rfl rfl
theorem txX2_addWorn {xs : List Int32} (l0 : Option Nat) (l1 : Int32) (l2 : Int32) (h : am_H) (a : Int32) (h2 : am_H) (e : fxX2_addWorn l0 l1 l2 h = some (a, h2)) : am_Ct xs mX2_addWorn 0 0 0 [am_R l0, am_I l1, am_I l2] h (fun v h3 => v = am_ci a ∧ h3 = h2) := am_meth okX2_addWorn (Nat.le_of_ble_eq_true rfl) rfl (sxX2_addWorn l0 l1 l2 h) e
theorem dX2_addText_0 : am_at cX2_addText 0 (.aload_n 0) 1 1 := by decide +kernel
theorem dX2_addText_1 : am_at cX2_addText 1 (.getfield 41) 3 4 := by decide +kernel
theorem dX2_addText_4 : am_at cX2_addText 4 (.istore_n 2) 1 5 := by decide +kernel
theorem dX2_addText_5 : am_at cX2_addText 5 (.iload_n 2) 1 6 := by decide +kernel
theorem dX2_addText_6 : am_at cX2_addText 6 (.bipush 14) 2 8 := by decide +kernel
theorem dX2_addText_8 : am_at cX2_addText 8 (.if_icmp .lt 6) 3 11 := by decide +kernel
theorem dX2_addText_11 : am_at cX2_addText 11 (.ldc 55) 2 13 := by decide +kernel
theorem dX2_addText_13 : am_at cX2_addText 13 (.ireturn) 1 14 := by decide +kernel
theorem dX2_addText_14 : am_at cX2_addText 14 (.aload_n 0) 1 15 := by decide +kernel
theorem dX2_addText_15 : am_at cX2_addText 15 (.getfield 44) 3 18 := by decide +kernel
theorem dX2_addText_18 : am_at cX2_addText 18 (.iload_n 1) 1 19 := by decide +kernel
theorem dX2_addText_19 : am_at cX2_addText 19 (.iload_n 2) 1 20 := by decide +kernel
theorem dX2_addText_20 : am_at cX2_addText 20 (.iastore) 1 21 := by decide +kernel
theorem dX2_addText_21 : am_at cX2_addText 21 (.aload_n 0) 1 22 := by decide +kernel
theorem dX2_addText_22 : am_at cX2_addText 22 (.dup) 1 23 := by decide +kernel
theorem dX2_addText_23 : am_at cX2_addText 23 (.getfield 41) 3 26 := by decide +kernel
theorem dX2_addText_26 : am_at cX2_addText 26 (.iconst 1) 1 27 := by decide +kernel
theorem dX2_addText_27 : am_at cX2_addText 27 (.iadd) 1 28 := by decide +kernel
theorem dX2_addText_28 : am_at cX2_addText 28 (.putfield 41) 3 31 := by decide +kernel
theorem dX2_addText_31 : am_at cX2_addText 31 (.iload_n 2) 1 32 := by decide +kernel
theorem dX2_addText_32 : am_at cX2_addText 32 (.ireturn) 1 33 := by decide +kernel
def fxX2_addText (l0 : Option Nat) (l1 : Int32) (h : am_H) : Option (Int32 × am_H) := am_gd (am_ob h l0 2) (am_lt (am_gi h l0 8) (fun x1 => if x1 < (14 : Int32) then (am_gd (am_ob h l0 2) (am_gd (am_ix h (am_gr h l0 9) 0 l1) (am_lt (am_si h (am_gr h l0 9) l1.toNatClampNeg x1) (fun h2 => am_gd (am_ob h2 l0 2) (am_gd (am_ob h2 l0 2) (am_lt (am_si h2 l0 8 ((am_gi h2 l0 8) + (1 : Int32))) (fun h3 => some (x1, h3)))))))) else (some ((-1000000003 : Int32), h))))
set_option maxRecDepth 100000 in
theorem sxX2_addText {xs : List Int32} (l0 : Option Nat) (l1 : Int32) (h : am_H) : am_Sm xs am_ci mX2_addText 0 0 0 0 [some (am_R l0), some (am_I l1), none] [] h (fxX2_addText l0 l1 h) := by
  unfold fxX2_addText
  refine am_aload_n dX2_addText_0 rfl ?_
  refine am_getI dX2_addText_1 fk_RX2_41 rfl ?_
  refine am_istore_n (LL := fun y9 => [some (am_R l0), some (am_I l1), some (am_I y9)]) dX2_addText_4 (by decide) (fun _ => rfl) (fun x1 => ?_)
  refine am_iload_n dX2_addText_5 rfl ?_
  refine am_bipush (v := 14) dX2_addText_6 (by decide) ?_
  refine am_icmp_lt (tgt := 14) dX2_addText_8 (by decide) (fun c4 => ?_) (fun c4 => ?_)
  · refine am_aload_n dX2_addText_14 rfl ?_
    refine am_getR dX2_addText_15 fk_RX2_44 rfl ?_
    refine am_iload_n dX2_addText_18 rfl ?_
    refine am_iload_n dX2_addText_19 rfl ?_
    refine am_iast dX2_addText_20 (fun h2 => ?_)
    refine am_aload_n dX2_addText_21 rfl ?_
    refine am_dup dX2_addText_22 ?_
    refine am_getI dX2_addText_23 fk_RX2_41 rfl ?_
    refine am_iconst (v := 1) dX2_addText_26 (by decide) ?_
    refine am_iadd dX2_addText_27 ?_
    refine am_putI dX2_addText_28 fk_RX2_41 ⟨_, rfl, Or.inl rfl⟩ rfl (fun h3 => ?_)
    refine am_iload_n dX2_addText_31 rfl ?_
    exact am_iret dX2_addText_32 rfl rfl
  refine am_ldc (v := (-1000000003)) dX2_addText_11 wd321 ?_
  exact am_iret dX2_addText_13 rfl rfl
theorem txX2_addText {xs : List Int32} (l0 : Option Nat) (l1 : Int32) (h : am_H) (a : Int32) (h2 : am_H) (e : fxX2_addText l0 l1 h = some (a, h2)) : am_Ct xs mX2_addText 0 0 0 [am_R l0, am_I l1] h (fun v h3 => v = am_ci a ∧ h3 = h2) := am_meth okX2_addText (Nat.le_of_ble_eq_true rfl) rfl (sxX2_addText l0 l1 h) e
theorem dX2_lostCount_0 : am_at cX2_lostCount 0 (.iconst 0) 1 1 := by decide +kernel
theorem dX2_lostCount_1 : am_at cX2_lostCount 1 (.istore_n 1) 1 2 := by decide +kernel
theorem dX2_lostCount_2 : am_at cX2_lostCount 2 (.iconst 0) 1 3 := by decide +kernel
theorem dX2_lostCount_3 : am_at cX2_lostCount 3 (.istore_n 2) 1 4 := by decide +kernel
theorem dX2_lostCount_4 : am_at cX2_lostCount 4 (.iload_n 2) 1 5 := by decide +kernel
theorem dX2_lostCount_5 : am_at cX2_lostCount 5 (.aload_n 0) 1 6 := by decide +kernel
theorem dX2_lostCount_6 : am_at cX2_lostCount 6 (.getfield 18) 3 9 := by decide +kernel
theorem dX2_lostCount_9 : am_at cX2_lostCount 9 (.if_icmp .ge 24) 3 12 := by decide +kernel
theorem dX2_lostCount_12 : am_at cX2_lostCount 12 (.aload_n 0) 1 13 := by decide +kernel
theorem dX2_lostCount_13 : am_at cX2_lostCount 13 (.getfield 11) 3 16 := by decide +kernel
theorem dX2_lostCount_16 : am_at cX2_lostCount 16 (.iload_n 2) 1 17 := by decide +kernel
theorem dX2_lostCount_17 : am_at cX2_lostCount 17 (.aaload) 1 18 := by decide +kernel
theorem dX2_lostCount_18 : am_at cX2_lostCount 18 (.getfield 69) 3 21 := by decide +kernel
theorem dX2_lostCount_21 : am_at cX2_lostCount 21 (.ifCond .eq 6) 3 24 := by decide +kernel
theorem dX2_lostCount_24 : am_at cX2_lostCount 24 (.iinc 1 1) 3 27 := by decide +kernel
theorem dX2_lostCount_27 : am_at cX2_lostCount 27 (.iinc 2 1) 3 30 := by decide +kernel
theorem dX2_lostCount_30 : am_at cX2_lostCount 30 (.goto (-26)) 3 33 := by decide +kernel
theorem dX2_lostCount_33 : am_at cX2_lostCount 33 (.iload_n 1) 1 34 := by decide +kernel
theorem dX2_lostCount_34 : am_at cX2_lostCount 34 (.ireturn) 1 35 := by decide +kernel
def fxX2_lostCount_b27 (k4 : Option Nat → Int32 → Int32 → am_H → Option (Int32 × am_H)) (l0 : Option Nat) (l1 : Int32) (l2 : Int32) (h : am_H) : Option (Int32 × am_H) := am_lt (l2 + 1) (fun x6 => k4 l0 l1 x6 h)
set_option maxRecDepth 100000 in
theorem sxX2_lostCount_b27 {xs : List Int32} (k4 : Option Nat → Int32 → Int32 → am_H → Option (Int32 × am_H)) (hk4 : ∀ (l0 : Option Nat) (l1 : Int32) (l2 : Int32) (h : am_H), am_Sm xs am_ci mX2_lostCount 0 0 0 4 [some (am_R l0), some (am_I l1), some (am_I l2)] [] h (k4 l0 l1 l2 h)) (l0 : Option Nat) (l1 : Int32) (l2 : Int32) (h : am_H) : am_Sm xs am_ci mX2_lostCount 0 0 0 27 [some (am_R l0), some (am_I l1), some (am_I l2)] [] h (fxX2_lostCount_b27 k4 l0 l1 l2 h) := by
  unfold fxX2_lostCount_b27
  refine am_iinc (v := 1) (LL := fun y9 => [some (am_R l0), some (am_I l1), some (am_I y9)]) dX2_lostCount_27 (by decide) rfl (by decide) (fun _ => rfl) (fun x6 => ?_)
  refine am_goto (tgt := 4) dX2_lostCount_30 (by decide) ?_
  exact am_weak (hk4 l0 l1 x6 h) ⟨rfl, ⟨rfl, ⟨rfl, trivial⟩⟩⟩ (Nat.le_refl _) (Nat.le_refl _)
def fxX2_lostCount_b4 : Nat → Option Nat → Int32 → Int32 → am_H → Option (Int32 × am_H)
  | 0, _, _, _, _ => none
  | n + 1, l0, l1, l2, h => am_gd (am_ob h l0 2) (if (am_gi h l0 1) ≤ l2 then (some (l1, h)) else (am_gd (am_ob h l0 2) (am_gd (am_ix h (am_gr h l0 0) 3 l2) (am_gd (am_ob h (am_gr h (am_gr h l0 0) l2.toNatClampNeg) 1) (if (am_gi h (am_gr h (am_gr h l0 0) l2.toNatClampNeg) 5) = 0 then (fxX2_lostCount_b27 (fxX2_lostCount_b4 n) l0 l1 l2 h) else (am_lt (l1 + 1) (fun x3 => fxX2_lostCount_b27 (fxX2_lostCount_b4 n) l0 x3 l2 h)))))))
set_option maxRecDepth 100000 in
theorem sxX2_lostCount_b4 {xs : List Int32} : ∀ (n : Nat) (l0 : Option Nat) (l1 : Int32) (l2 : Int32) (h : am_H), am_Sm xs am_ci mX2_lostCount 0 0 0 4 [some (am_R l0), some (am_I l1), some (am_I l2)] [] h (fxX2_lostCount_b4 n l0 l1 l2 h) := by
  intro n
  induction n with
  | zero => intros; exact am_none
  | succ n ih =>
    intro l0 l1 l2 h
    rw [fxX2_lostCount_b4]
    refine am_iload_n dX2_lostCount_4 rfl ?_
    refine am_aload_n dX2_lostCount_5 rfl ?_
    refine am_getI dX2_lostCount_6 fk_RX2_18 rfl ?_
    refine am_icmp_ge (tgt := 33) dX2_lostCount_9 (by decide) (fun c5 => ?_) (fun c5 => ?_)
    · refine am_iload_n dX2_lostCount_33 rfl ?_
      exact am_iret dX2_lostCount_34 rfl rfl
    refine am_aload_n dX2_lostCount_12 rfl ?_
    refine am_getR dX2_lostCount_13 fk_RX2_11 rfl ?_
    refine am_iload_n dX2_lostCount_16 rfl ?_
    refine am_aald (t := 3) dX2_lostCount_17 (by decide) (by decide) ?_
    refine am_getI dX2_lostCount_18 fk_RX2_69 rfl ?_
    refine am_if_eq (tgt := 27) dX2_lostCount_21 (by decide) (fun c4 => ?_) (fun c4 => ?_)
    · exact am_weak (sxX2_lostCount_b27 (fxX2_lostCount_b4 n) ih l0 l1 l2 h) ⟨rfl, ⟨rfl, ⟨rfl, trivial⟩⟩⟩ (Nat.le_refl _) (Nat.le_refl _)
    refine am_iinc (v := 1) (LL := fun y9 => [some (am_R l0), some (am_I y9), some (am_I l2)]) dX2_lostCount_24 (by decide) rfl (by decide) (fun _ => rfl) (fun x3 => ?_)
    exact am_weak (sxX2_lostCount_b27 (fxX2_lostCount_b4 n) ih l0 x3 l2 h) ⟨rfl, ⟨rfl, ⟨rfl, trivial⟩⟩⟩ (Nat.le_refl _) (Nat.le_refl _)
def fxX2_lostCount (l0 : Option Nat) (h : am_H) : Option (Int32 × am_H) := am_lt (0 : Int32) (fun x1 => am_lt (0 : Int32) (fun x2 => fxX2_lostCount_b4 am_F l0 x1 x2 h))
set_option maxRecDepth 100000 in
theorem sxX2_lostCount {xs : List Int32} (l0 : Option Nat) (h : am_H) : am_Sm xs am_ci mX2_lostCount 0 0 0 0 [some (am_R l0), none, none] [] h (fxX2_lostCount l0 h) := by
  unfold fxX2_lostCount
  refine am_iconst (v := 0) dX2_lostCount_0 (by decide) ?_
  refine am_istore_n (LL := fun y9 => [some (am_R l0), some (am_I y9), none]) dX2_lostCount_1 (by decide) (fun _ => rfl) (fun x1 => ?_)
  refine am_iconst (v := 0) dX2_lostCount_2 (by decide) ?_
  refine am_istore_n (LL := fun y9 => [some (am_R l0), some (am_I x1), some (am_I y9)]) dX2_lostCount_3 (by decide) (fun _ => rfl) (fun x2 => ?_)
  exact am_weak (sxX2_lostCount_b4 am_F l0 x1 x2 h) ⟨rfl, ⟨rfl, ⟨rfl, trivial⟩⟩⟩ (Nat.le_refl _) (Nat.le_refl _)
theorem txX2_lostCount {xs : List Int32} (l0 : Option Nat) (h : am_H) (a : Int32) (h2 : am_H) (e : fxX2_lostCount l0 h = some (a, h2)) : am_Ct xs mX2_lostCount 0 0 0 [am_R l0] h (fun v h3 => v = am_ci a ∧ h3 = h2) := am_meth okX2_lostCount (Nat.le_of_ble_eq_true rfl) rfl (sxX2_lostCount l0 h) e
theorem dX2_wearOfAll_0 : am_at cX2_wearOfAll 0 (.iconst 0) 1 1 := by decide +kernel
theorem dX2_wearOfAll_1 : am_at cX2_wearOfAll 1 (.istore_n 1) 1 2 := by decide +kernel
theorem dX2_wearOfAll_2 : am_at cX2_wearOfAll 2 (.iconst 0) 1 3 := by decide +kernel
theorem dX2_wearOfAll_3 : am_at cX2_wearOfAll 3 (.istore_n 2) 1 4 := by decide +kernel
theorem dX2_wearOfAll_4 : am_at cX2_wearOfAll 4 (.iload_n 2) 1 5 := by decide +kernel
theorem dX2_wearOfAll_5 : am_at cX2_wearOfAll 5 (.aload_n 0) 1 6 := by decide +kernel
theorem dX2_wearOfAll_6 : am_at cX2_wearOfAll 6 (.getfield 18) 3 9 := by decide +kernel
theorem dX2_wearOfAll_9 : am_at cX2_wearOfAll 9 (.if_icmp .ge 33) 3 12 := by decide +kernel
theorem dX2_wearOfAll_12 : am_at cX2_wearOfAll 12 (.aload_n 0) 1 13 := by decide +kernel
theorem dX2_wearOfAll_13 : am_at cX2_wearOfAll 13 (.getfield 11) 3 16 := by decide +kernel
theorem dX2_wearOfAll_16 : am_at cX2_wearOfAll 16 (.iload_n 2) 1 17 := by decide +kernel
theorem dX2_wearOfAll_17 : am_at cX2_wearOfAll 17 (.aaload) 1 18 := by decide +kernel
theorem dX2_wearOfAll_18 : am_at cX2_wearOfAll 18 (.getfield 69) 3 21 := by decide +kernel
theorem dX2_wearOfAll_21 : am_at cX2_wearOfAll 21 (.ifCond .ne 15) 3 24 := by decide +kernel
theorem dX2_wearOfAll_24 : am_at cX2_wearOfAll 24 (.iload_n 1) 1 25 := by decide +kernel
theorem dX2_wearOfAll_25 : am_at cX2_wearOfAll 25 (.aload_n 0) 1 26 := by decide +kernel
theorem dX2_wearOfAll_26 : am_at cX2_wearOfAll 26 (.getfield 11) 3 29 := by decide +kernel
theorem dX2_wearOfAll_29 : am_at cX2_wearOfAll 29 (.iload_n 2) 1 30 := by decide +kernel
theorem dX2_wearOfAll_30 : am_at cX2_wearOfAll 30 (.aaload) 1 31 := by decide +kernel
theorem dX2_wearOfAll_31 : am_at cX2_wearOfAll 31 (.getfield 73) 3 34 := by decide +kernel
theorem dX2_wearOfAll_34 : am_at cX2_wearOfAll 34 (.iadd) 1 35 := by decide +kernel
theorem dX2_wearOfAll_35 : am_at cX2_wearOfAll 35 (.istore_n 1) 1 36 := by decide +kernel
theorem dX2_wearOfAll_36 : am_at cX2_wearOfAll 36 (.iinc 2 1) 3 39 := by decide +kernel
theorem dX2_wearOfAll_39 : am_at cX2_wearOfAll 39 (.goto (-35)) 3 42 := by decide +kernel
theorem dX2_wearOfAll_42 : am_at cX2_wearOfAll 42 (.iload_n 1) 1 43 := by decide +kernel
theorem dX2_wearOfAll_43 : am_at cX2_wearOfAll 43 (.ireturn) 1 44 := by decide +kernel
def fxX2_wearOfAll_b36 (k4 : Option Nat → Int32 → Int32 → am_H → Option (Int32 × am_H)) (l0 : Option Nat) (l1 : Int32) (l2 : Int32) (h : am_H) : Option (Int32 × am_H) := am_lt (l2 + 1) (fun x6 => k4 l0 l1 x6 h)
set_option maxRecDepth 100000 in
theorem sxX2_wearOfAll_b36 {xs : List Int32} (k4 : Option Nat → Int32 → Int32 → am_H → Option (Int32 × am_H)) (hk4 : ∀ (l0 : Option Nat) (l1 : Int32) (l2 : Int32) (h : am_H), am_Sm xs am_ci mX2_wearOfAll 0 0 0 4 [some (am_R l0), some (am_I l1), some (am_I l2)] [] h (k4 l0 l1 l2 h)) (l0 : Option Nat) (l1 : Int32) (l2 : Int32) (h : am_H) : am_Sm xs am_ci mX2_wearOfAll 0 0 0 36 [some (am_R l0), some (am_I l1), some (am_I l2)] [] h (fxX2_wearOfAll_b36 k4 l0 l1 l2 h) := by
  unfold fxX2_wearOfAll_b36
  refine am_iinc (v := 1) (LL := fun y9 => [some (am_R l0), some (am_I l1), some (am_I y9)]) dX2_wearOfAll_36 (by decide) rfl (by decide) (fun _ => rfl) (fun x6 => ?_)
  refine am_goto (tgt := 4) dX2_wearOfAll_39 (by decide) ?_
  exact am_weak (hk4 l0 l1 x6 h) ⟨rfl, ⟨rfl, ⟨rfl, trivial⟩⟩⟩ (Nat.le_refl _) (Nat.le_refl _)
def fxX2_wearOfAll_b4 : Nat → Option Nat → Int32 → Int32 → am_H → Option (Int32 × am_H)
  | 0, _, _, _, _ => none
  | n + 1, l0, l1, l2, h => am_gd (am_ob h l0 2) (if (am_gi h l0 1) ≤ l2 then (some (l1, h)) else (am_gd (am_ob h l0 2) (am_gd (am_ix h (am_gr h l0 0) 3 l2) (am_gd (am_ob h (am_gr h (am_gr h l0 0) l2.toNatClampNeg) 1) (if (am_gi h (am_gr h (am_gr h l0 0) l2.toNatClampNeg) 5) = 0 then (am_gd (am_ob h l0 2) (am_gd (am_ix h (am_gr h l0 0) 3 l2) (am_gd (am_ob h (am_gr h (am_gr h l0 0) l2.toNatClampNeg) 1) (am_lt (l1 + (am_gi h (am_gr h (am_gr h l0 0) l2.toNatClampNeg) 4)) (fun x3 => fxX2_wearOfAll_b36 (fxX2_wearOfAll_b4 n) l0 x3 l2 h))))) else (fxX2_wearOfAll_b36 (fxX2_wearOfAll_b4 n) l0 l1 l2 h))))))
set_option maxRecDepth 100000 in
theorem sxX2_wearOfAll_b4 {xs : List Int32} : ∀ (n : Nat) (l0 : Option Nat) (l1 : Int32) (l2 : Int32) (h : am_H), am_Sm xs am_ci mX2_wearOfAll 0 0 0 4 [some (am_R l0), some (am_I l1), some (am_I l2)] [] h (fxX2_wearOfAll_b4 n l0 l1 l2 h) := by
  intro n
  induction n with
  | zero => intros; exact am_none
  | succ n ih =>
    intro l0 l1 l2 h
    rw [fxX2_wearOfAll_b4]
    refine am_iload_n dX2_wearOfAll_4 rfl ?_
    refine am_aload_n dX2_wearOfAll_5 rfl ?_
    refine am_getI dX2_wearOfAll_6 fk_RX2_18 rfl ?_
    refine am_icmp_ge (tgt := 42) dX2_wearOfAll_9 (by decide) (fun c5 => ?_) (fun c5 => ?_)
    · refine am_iload_n dX2_wearOfAll_42 rfl ?_
      exact am_iret dX2_wearOfAll_43 rfl rfl
    refine am_aload_n dX2_wearOfAll_12 rfl ?_
    refine am_getR dX2_wearOfAll_13 fk_RX2_11 rfl ?_
    refine am_iload_n dX2_wearOfAll_16 rfl ?_
    refine am_aald (t := 3) dX2_wearOfAll_17 (by decide) (by decide) ?_
    refine am_getI dX2_wearOfAll_18 fk_RX2_69 rfl ?_
    refine am_if_ne (tgt := 36) dX2_wearOfAll_21 (by decide) (fun c4 => ?_) (fun c4 => ?_)
    · exact am_weak (sxX2_wearOfAll_b36 (fxX2_wearOfAll_b4 n) ih l0 l1 l2 h) ⟨rfl, ⟨rfl, ⟨rfl, trivial⟩⟩⟩ (Nat.le_refl _) (Nat.le_refl _)
    refine am_iload_n dX2_wearOfAll_24 rfl ?_
    refine am_aload_n dX2_wearOfAll_25 rfl ?_
    refine am_getR dX2_wearOfAll_26 fk_RX2_11 rfl ?_
    refine am_iload_n dX2_wearOfAll_29 rfl ?_
    refine am_aald (t := 3) dX2_wearOfAll_30 (by decide) (by decide) ?_
    refine am_getI dX2_wearOfAll_31 fk_RX2_73 rfl ?_
    refine am_iadd dX2_wearOfAll_34 ?_
    refine am_istore_n (LL := fun y9 => [some (am_R l0), some (am_I y9), some (am_I l2)]) dX2_wearOfAll_35 (by decide) (fun _ => rfl) (fun x3 => ?_)
    exact am_weak (sxX2_wearOfAll_b36 (fxX2_wearOfAll_b4 n) ih l0 x3 l2 h) ⟨rfl, ⟨rfl, ⟨rfl, trivial⟩⟩⟩ (Nat.le_refl _) (Nat.le_refl _)
def fxX2_wearOfAll (l0 : Option Nat) (h : am_H) : Option (Int32 × am_H) := am_lt (0 : Int32) (fun x1 => am_lt (0 : Int32) (fun x2 => fxX2_wearOfAll_b4 am_F l0 x1 x2 h))
set_option maxRecDepth 100000 in
theorem sxX2_wearOfAll {xs : List Int32} (l0 : Option Nat) (h : am_H) : am_Sm xs am_ci mX2_wearOfAll 0 0 0 0 [some (am_R l0), none, none] [] h (fxX2_wearOfAll l0 h) := by
  unfold fxX2_wearOfAll
  refine am_iconst (v := 0) dX2_wearOfAll_0 (by decide) ?_
  refine am_istore_n (LL := fun y9 => [some (am_R l0), some (am_I y9), none]) dX2_wearOfAll_1 (by decide) (fun _ => rfl) (fun x1 => ?_)
  refine am_iconst (v := 0) dX2_wearOfAll_2 (by decide) ?_
  refine am_istore_n (LL := fun y9 => [some (am_R l0), some (am_I x1), some (am_I y9)]) dX2_wearOfAll_3 (by decide) (fun _ => rfl) (fun x2 => ?_)
  exact am_weak (sxX2_wearOfAll_b4 am_F l0 x1 x2 h) ⟨rfl, ⟨rfl, ⟨rfl, trivial⟩⟩⟩ (Nat.le_refl _) (Nat.le_refl _)
theorem txX2_wearOfAll {xs : List Int32} (l0 : Option Nat) (h : am_H) (a : Int32) (h2 : am_H) (e : fxX2_wearOfAll l0 h = some (a, h2)) : am_Ct xs mX2_wearOfAll 0 0 0 [am_R l0] h (fun v h3 => v = am_ci a ∧ h3 = h2) := am_meth okX2_wearOfAll (Nat.le_of_ble_eq_true rfl) rfl (sxX2_wearOfAll l0 h) e
theorem dX9_held_0 : am_at cX9_held 0 (.iconst 0) 1 1 := by decide +kernel
theorem dX9_held_1 : am_at cX9_held 1 (.iload_n 0) 1 2 := by decide +kernel
theorem dX9_held_2 : am_at cX9_held 2 (.iload_n 1) 1 3 := by decide +kernel
theorem dX9_held_3 : am_at cX9_held 3 (.invokestatic 139) 3 6 := by decide +kernel
theorem dX9_held_6 : am_at cX9_held 6 (.invokestatic 331) 3 9 := by decide +kernel
theorem dX9_held_9 : am_at cX9_held 9 (.ireturn) 1 10 := by decide +kernel
def fxX9_held (l0 : Int32) (l1 : Int32) (h : am_H) : Option (Int32 × am_H) := some ((am_mmax (0 : Int32) (am_mmin l0 l1)), h)
set_option maxRecDepth 100000 in
theorem sxX9_held {xs : List Int32} (l0 : Int32) (l1 : Int32) (h : am_H) : am_Sm xs am_ci mX9_held 1 0 0 0 [some (am_I l0), some (am_I l1)] [] h (fxX9_held l0 l1 h) := by
  unfold fxX9_held
  refine am_iconst (v := 0) dX9_held_0 (by decide) ?_
  refine am_iload_n dX9_held_1 rfl ?_
  refine am_iload_n dX9_held_2 rfl ?_
  refine am_mmin9 dX9_held_3 wd427 wd407 wd12 wd408 (by decide) (Nat.le_of_ble_eq_true rfl) ?_
  refine am_mmax9 dX9_held_6 wd428 wd404 wd12 wd405 (by decide) (Nat.le_of_ble_eq_true rfl) ?_
  exact am_iret dX9_held_9 rfl rfl
theorem txX9_held {xs : List Int32} (l0 : Int32) (l1 : Int32) (h : am_H) (a : Int32) (h2 : am_H) (e : fxX9_held l0 l1 h = some (a, h2)) : am_Ct xs mX9_held 1 0 0 [am_I l0, am_I l1] h (fun v h3 => v = am_ci a ∧ h3 = h2) := am_meth okX9_held (Nat.le_of_ble_eq_true rfl) rfl (sxX9_held l0 l1 h) e
theorem dX2_pairValue_0 : am_at cX2_pairValue 0 (.aload_n 0) 1 1 := by decide +kernel
theorem dX2_pairValue_1 : am_at cX2_pairValue 1 (.getfield 11) 3 4 := by decide +kernel
theorem dX2_pairValue_4 : am_at cX2_pairValue 4 (.iload_n 1) 1 5 := by decide +kernel
theorem dX2_pairValue_5 : am_at cX2_pairValue 5 (.aaload) 1 6 := by decide +kernel
theorem dX2_pairValue_6 : am_at cX2_pairValue 6 (.astore 4) 2 8 := by decide +kernel
theorem dX2_pairValue_8 : am_at cX2_pairValue 8 (.aload_n 0) 1 9 := by decide +kernel
theorem dX2_pairValue_9 : am_at cX2_pairValue 9 (.getfield 11) 3 12 := by decide +kernel
theorem dX2_pairValue_12 : am_at cX2_pairValue 12 (.iload_n 2) 1 13 := by decide +kernel
theorem dX2_pairValue_13 : am_at cX2_pairValue 13 (.aaload) 1 14 := by decide +kernel
theorem dX2_pairValue_14 : am_at cX2_pairValue 14 (.astore 5) 2 16 := by decide +kernel
theorem dX2_pairValue_16 : am_at cX2_pairValue 16 (.aload 4) 2 18 := by decide +kernel
theorem dX2_pairValue_18 : am_at cX2_pairValue 18 (.aload 5) 2 20 := by decide +kernel
theorem dX2_pairValue_20 : am_at cX2_pairValue 20 (.invokevirtual 76) 3 23 := by decide +kernel
theorem dX2_pairValue_23 : am_at cX2_pairValue 23 (.ifCond .ne 5) 3 26 := by decide +kernel
theorem dX2_pairValue_26 : am_at cX2_pairValue 26 (.iconst (-1)) 1 27 := by decide +kernel
theorem dX2_pairValue_27 : am_at cX2_pairValue 27 (.ireturn) 1 28 := by decide +kernel
theorem dX2_pairValue_28 : am_at cX2_pairValue 28 (.aload 4) 2 30 := by decide +kernel
theorem dX2_pairValue_30 : am_at cX2_pairValue 30 (.getfield 73) 3 33 := by decide +kernel
theorem dX2_pairValue_33 : am_at cX2_pairValue 33 (.aload 5) 2 35 := by decide +kernel
theorem dX2_pairValue_35 : am_at cX2_pairValue 35 (.getfield 73) 3 38 := by decide +kernel
theorem dX2_pairValue_38 : am_at cX2_pairValue 38 (.iadd) 1 39 := by decide +kernel
theorem dX2_pairValue_39 : am_at cX2_pairValue 39 (.istore 6) 2 41 := by decide +kernel
theorem dX2_pairValue_41 : am_at cX2_pairValue 41 (.aload_n 0) 1 42 := by decide +kernel
theorem dX2_pairValue_42 : am_at cX2_pairValue 42 (.getfield 44) 3 45 := by decide +kernel
theorem dX2_pairValue_45 : am_at cX2_pairValue 45 (.iconst 0) 1 46 := by decide +kernel
theorem dX2_pairValue_46 : am_at cX2_pairValue 46 (.iaload) 1 47 := by decide +kernel
theorem dX2_pairValue_47 : am_at cX2_pairValue 47 (.istore 7) 2 49 := by decide +kernel
theorem dX2_pairValue_49 : am_at cX2_pairValue 49 (.iload 7) 2 51 := by decide +kernel
theorem dX2_pairValue_51 : am_at cX2_pairValue 51 (.iconst (-1)) 1 52 := by decide +kernel
theorem dX2_pairValue_52 : am_at cX2_pairValue 52 (.if_icmp .ne 25) 3 55 := by decide +kernel
theorem dX2_pairValue_55 : am_at cX2_pairValue 55 (.iconst 0) 1 56 := by decide +kernel
theorem dX2_pairValue_56 : am_at cX2_pairValue 56 (.aload 4) 2 58 := by decide +kernel
theorem dX2_pairValue_58 : am_at cX2_pairValue 58 (.getfield 80) 3 61 := by decide +kernel
theorem dX2_pairValue_61 : am_at cX2_pairValue 61 (.aload 5) 2 63 := by decide +kernel
theorem dX2_pairValue_63 : am_at cX2_pairValue 63 (.getfield 80) 3 66 := by decide +kernel
theorem dX2_pairValue_66 : am_at cX2_pairValue 66 (.iadd) 1 67 := by decide +kernel
theorem dX2_pairValue_67 : am_at cX2_pairValue 67 (.iload 6) 2 69 := by decide +kernel
theorem dX2_pairValue_69 : am_at cX2_pairValue 69 (.bipush 10) 2 71 := by decide +kernel
theorem dX2_pairValue_71 : am_at cX2_pairValue 71 (.idiv) 1 72 := by decide +kernel
theorem dX2_pairValue_72 : am_at cX2_pairValue 72 (.isub) 1 73 := by decide +kernel
theorem dX2_pairValue_73 : am_at cX2_pairValue 73 (.invokestatic 83) 3 76 := by decide +kernel
theorem dX2_pairValue_76 : am_at cX2_pairValue 76 (.ireturn) 1 77 := by decide +kernel
theorem dX2_pairValue_77 : am_at cX2_pairValue 77 (.aload 4) 2 79 := by decide +kernel
theorem dX2_pairValue_79 : am_at cX2_pairValue 79 (.getfield 80) 3 82 := by decide +kernel
theorem dX2_pairValue_82 : am_at cX2_pairValue 82 (.aload 5) 2 84 := by decide +kernel
theorem dX2_pairValue_84 : am_at cX2_pairValue 84 (.getfield 80) 3 87 := by decide +kernel
theorem dX2_pairValue_87 : am_at cX2_pairValue 87 (.invokestatic 89) 3 90 := by decide +kernel
theorem dX2_pairValue_90 : am_at cX2_pairValue 90 (.istore 8) 2 92 := by decide +kernel
theorem dX2_pairValue_92 : am_at cX2_pairValue 92 (.aload 4) 2 94 := by decide +kernel
theorem dX2_pairValue_94 : am_at cX2_pairValue 94 (.getfield 80) 3 97 := by decide +kernel
theorem dX2_pairValue_97 : am_at cX2_pairValue 97 (.aload 5) 2 99 := by decide +kernel
theorem dX2_pairValue_99 : am_at cX2_pairValue 99 (.getfield 80) 3 102 := by decide +kernel
theorem dX2_pairValue_102 : am_at cX2_pairValue 102 (.invokestatic 83) 3 105 := by decide +kernel
theorem dX2_pairValue_105 : am_at cX2_pairValue 105 (.istore 9) 2 107 := by decide +kernel
theorem dX2_pairValue_107 : am_at cX2_pairValue 107 (.aload_n 3) 1 108 := by decide +kernel
theorem dX2_pairValue_108 : am_at cX2_pairValue 108 (.iload 7) 2 110 := by decide +kernel
theorem dX2_pairValue_110 : am_at cX2_pairValue 110 (.iload 8) 2 112 := by decide +kernel
theorem dX2_pairValue_112 : am_at cX2_pairValue 112 (.iload 9) 2 114 := by decide +kernel
theorem dX2_pairValue_114 : am_at cX2_pairValue 114 (.iload 6) 2 116 := by decide +kernel
theorem dX2_pairValue_116 : am_at cX2_pairValue 116 (.invokevirtual 92) 3 119 := by decide +kernel
theorem dX2_pairValue_119 : am_at cX2_pairValue 119 (.sipush 999) 3 122 := by decide +kernel
theorem dX2_pairValue_122 : am_at cX2_pairValue 122 (.invokestatic 97) 3 125 := by decide +kernel
theorem dX2_pairValue_125 : am_at cX2_pairValue 125 (.ireturn) 1 126 := by decide +kernel
def fxX2_pairValue (l0 : Option Nat) (l1 : Int32) (l2 : Int32) (l3 : Option Nat) (h : am_H) : Option (Int32 × am_H) := am_gd (am_ob h l0 2) (am_gd (am_ix h (am_gr h l0 0) 3 l1) (am_lt (am_gr h (am_gr h l0 0) l1.toNatClampNeg) (fun q1 => am_gd (am_ob h l0 2) (am_gd (am_ix h (am_gr h l0 0) 3 l2) (am_lt (am_gr h (am_gr h l0 0) l2.toNatClampNeg) (fun q2 => am_gd (am_ob h q1 1) (am_bd (fxX1_pairsWith q1 q2 h) (fun r3 h4 => if r3 = 0 then (some ((-1 : Int32), h4)) else (am_gd (am_ob h4 q1 1) (am_gd (am_ob h4 q2 1) (am_lt ((am_gi h4 q1 4) + (am_gi h4 q2 4)) (fun x5 => am_gd (am_ob h4 l0 2) (am_gd (am_ix h4 (am_gr h4 l0 9) 0 (0 : Int32)) (am_lt (am_gi h4 (am_gr h4 l0 9) (0 : Int32).toNatClampNeg) (fun x6 => if x6 = (-1 : Int32) then (am_gd (am_ob h4 q1 1) (am_gd (am_ob h4 q2 1) (am_gd (am_nz (10 : Int32)) (some ((am_mmax (0 : Int32) (((am_gi h4 q1 3) + (am_gi h4 q2 3)) - (x5 / (10 : Int32)))), h4))))) else (am_gd (am_ob h4 q1 1) (am_gd (am_ob h4 q2 1) (am_lt (am_mmin (am_gi h4 q1 3) (am_gi h4 q2 3)) (fun x7 => am_gd (am_ob h4 q1 1) (am_gd (am_ob h4 q2 1) (am_lt (am_mmax (am_gi h4 q1 3) (am_gi h4 q2 3)) (fun x8 => am_gd (am_ob h4 l3 0) (am_bd (fxX0_give l3 x6 x7 x8 x5 h4) (fun r9 h10 => am_bd (fxX9_held r9 (999 : Int32) h10) (fun r11 h12 => some (r11, h12))))))))))))))))))))))))))
set_option maxRecDepth 100000 in
theorem sxX2_pairValue {xs : List Int32} (l0 : Option Nat) (l1 : Int32) (l2 : Int32) (l3 : Option Nat) (h : am_H) : am_Sm xs am_ci mX2_pairValue 3 0 0 0 [some (am_R l0), some (am_I l1), some (am_I l2), some (am_R l3), none, none, none, none, none, none] [] h (fxX2_pairValue l0 l1 l2 l3 h) := by
  unfold fxX2_pairValue
  refine am_aload_n dX2_pairValue_0 rfl ?_
  refine am_getR dX2_pairValue_1 fk_RX2_11 rfl ?_
  refine am_iload_n dX2_pairValue_4 rfl ?_
  refine am_aald (t := 3) dX2_pairValue_5 (by decide) (by decide) ?_
  refine am_astore (LL := fun y9 => [some (am_R l0), some (am_I l1), some (am_I l2), some (am_R l3), some (am_R y9), none, none, none, none, none]) dX2_pairValue_6 (by decide) (fun _ => rfl) (fun q1 => ?_)
  refine am_aload_n dX2_pairValue_8 rfl ?_
  refine am_getR dX2_pairValue_9 fk_RX2_11 rfl ?_
  refine am_iload_n dX2_pairValue_12 rfl ?_
  refine am_aald (t := 3) dX2_pairValue_13 (by decide) (by decide) ?_
  refine am_astore (LL := fun y9 => [some (am_R l0), some (am_I l1), some (am_I l2), some (am_R l3), some (am_R q1), some (am_R y9), none, none, none, none]) dX2_pairValue_14 (by decide) (fun _ => rfl) (fun q2 => ?_)
  refine am_aload dX2_pairValue_16 rfl ?_
  refine am_aload dX2_pairValue_18 rfl ?_
  refine am_callV (cvj := am_ci) (mtj := mX1_pairsWith) (dj := 2) (nj := 1) (rcj := 0) (rsj := 0) (rc' := 0) (rs' := 0) (ci := 1) (st' := fun a9 => (am_I a9 :: [])) ⟨_, rfl, rfl⟩ [am_R q2] [] dX2_pairValue_20 okX1_pairsWith lk_RX2_76 (fun zA zH zE => txX1_pairsWith q1 q2 h zA zH zE) rfl (fun _ => rfl) (by decide) rfl (Nat.le_of_ble_eq_true rfl) (by decide) (by decide) (fun r3 h4 => ?_)
  refine am_if_ne (tgt := 28) dX2_pairValue_23 (by decide) (fun c14 => ?_) (fun c14 => ?_)
  · refine am_aload dX2_pairValue_28 rfl ?_
    refine am_getI dX2_pairValue_30 fk_RX2_73 rfl ?_
    refine am_aload dX2_pairValue_33 rfl ?_
    refine am_getI dX2_pairValue_35 fk_RX2_73 rfl ?_
    refine am_iadd dX2_pairValue_38 ?_
    refine am_istore (LL := fun y9 => [some (am_R l0), some (am_I l1), some (am_I l2), some (am_R l3), some (am_R q1), some (am_R q2), some (am_I y9), none, none, none]) dX2_pairValue_39 (by decide) (fun _ => rfl) (fun x5 => ?_)
    refine am_aload_n dX2_pairValue_41 rfl ?_
    refine am_getR dX2_pairValue_42 fk_RX2_44 rfl ?_
    refine am_iconst (v := 0) dX2_pairValue_45 (by decide) ?_
    refine am_iald dX2_pairValue_46 ?_
    refine am_istore (LL := fun y9 => [some (am_R l0), some (am_I l1), some (am_I l2), some (am_R l3), some (am_R q1), some (am_R q2), some (am_I x5), some (am_I y9), none, none]) dX2_pairValue_47 (by decide) (fun _ => rfl) (fun x6 => ?_)
    refine am_iload dX2_pairValue_49 rfl ?_
    refine am_iconst (v := (-1)) dX2_pairValue_51 (by decide) ?_
    refine am_icmp_ne (tgt := 77) dX2_pairValue_52 (by decide) (fun c13 => ?_) (fun c13 => ?_)
    · refine am_aload dX2_pairValue_77 rfl ?_
      refine am_getI dX2_pairValue_79 fk_RX2_80 rfl ?_
      refine am_aload dX2_pairValue_82 rfl ?_
      refine am_getI dX2_pairValue_84 fk_RX2_80 rfl ?_
      refine am_mmin9 dX2_pairValue_87 wd406 wd407 wd12 wd408 (by decide) (Nat.le_of_ble_eq_true rfl) ?_
      refine am_istore (LL := fun y9 => [some (am_R l0), some (am_I l1), some (am_I l2), some (am_R l3), some (am_R q1), some (am_R q2), some (am_I x5), some (am_I x6), some (am_I y9), none]) dX2_pairValue_90 (by decide) (fun _ => rfl) (fun x7 => ?_)
      refine am_aload dX2_pairValue_92 rfl ?_
      refine am_getI dX2_pairValue_94 fk_RX2_80 rfl ?_
      refine am_aload dX2_pairValue_97 rfl ?_
      refine am_getI dX2_pairValue_99 fk_RX2_80 rfl ?_
      refine am_mmax9 dX2_pairValue_102 wd403 wd404 wd12 wd405 (by decide) (Nat.le_of_ble_eq_true rfl) ?_
      refine am_istore (LL := fun y9 => [some (am_R l0), some (am_I l1), some (am_I l2), some (am_R l3), some (am_R q1), some (am_R q2), some (am_I x5), some (am_I x6), some (am_I x7), some (am_I y9)]) dX2_pairValue_105 (by decide) (fun _ => rfl) (fun x8 => ?_)
      refine am_aload_n dX2_pairValue_107 rfl ?_
      refine am_iload dX2_pairValue_108 rfl ?_
      refine am_iload dX2_pairValue_110 rfl ?_
      refine am_iload dX2_pairValue_112 rfl ?_
      refine am_iload dX2_pairValue_114 rfl ?_
      refine am_callV (cvj := am_ci) (mtj := mX0_give) (dj := 2) (nj := 4) (rcj := 0) (rsj := 0) (rc' := 0) (rs' := 0) (ci := 0) (st' := fun a9 => (am_I a9 :: [])) ⟨_, rfl, rfl⟩ [am_I x6, am_I x7, am_I x8, am_I x5] [] dX2_pairValue_116 okX0_give lk_RX2_92 (fun zA zH zE => txX0_give l3 x6 x7 x8 x5 h4 zA zH zE) rfl (fun _ => rfl) (by decide) rfl (Nat.le_of_ble_eq_true rfl) (by decide) (by decide) (fun r9 h10 => ?_)
      refine am_sipush (v := 999) dX2_pairValue_119 (by decide) ?_
      refine am_callS (cvj := am_ci) (mtj := mX9_held) (dj := 1) (nj := 2) (rcj := 0) (rsj := 0) (rc' := 0) (rs' := 0) (st' := fun a9 => (am_I a9 :: [])) [am_I r9, am_I (999 : Int32)] [] dX2_pairValue_122 okX9_held lk_RX2_97 (fun zA zH zE => txX9_held r9 (999 : Int32) h10 zA zH zE) rfl (fun _ => rfl) (by decide) rfl (Nat.le_of_ble_eq_true rfl) (by decide) (by decide) (fun r11 h12 => ?_)
      exact am_iret dX2_pairValue_125 rfl rfl
    refine am_iconst (v := 0) dX2_pairValue_55 (by decide) ?_
    refine am_aload dX2_pairValue_56 rfl ?_
    refine am_getI dX2_pairValue_58 fk_RX2_80 rfl ?_
    refine am_aload dX2_pairValue_61 rfl ?_
    refine am_getI dX2_pairValue_63 fk_RX2_80 rfl ?_
    refine am_iadd dX2_pairValue_66 ?_
    refine am_iload dX2_pairValue_67 rfl ?_
    refine am_bipush (v := 10) dX2_pairValue_69 (by decide) ?_
    refine am_idiv dX2_pairValue_71 ?_
    refine am_isub dX2_pairValue_72 ?_
    refine am_mmax9 dX2_pairValue_73 wd403 wd404 wd12 wd405 (by decide) (Nat.le_of_ble_eq_true rfl) ?_
    exact am_iret dX2_pairValue_76 rfl rfl
  refine am_iconst (v := (-1)) dX2_pairValue_26 (by decide) ?_
  exact am_iret dX2_pairValue_27 rfl rfl
theorem txX2_pairValue {xs : List Int32} (l0 : Option Nat) (l1 : Int32) (l2 : Int32) (l3 : Option Nat) (h : am_H) (a : Int32) (h2 : am_H) (e : fxX2_pairValue l0 l1 l2 l3 h = some (a, h2)) : am_Ct xs mX2_pairValue 3 0 0 [am_R l0, am_I l1, am_I l2, am_R l3] h (fun v h3 => v = am_ci a ∧ h3 = h2) := am_meth okX2_pairValue (Nat.le_of_ble_eq_true rfl) rfl (sxX2_pairValue l0 l1 l2 l3 h) e
theorem dX2_wearOut_0 : am_at cX2_wearOut 0 (.aload_n 0) 1 1 := by decide +kernel
theorem dX2_wearOut_1 : am_at cX2_wearOut 1 (.invokevirtual 60) 3 4 := by decide +kernel
theorem dX2_wearOut_4 : am_at cX2_wearOut 4 (.bipush 10) 2 6 := by decide +kernel
theorem dX2_wearOut_6 : am_at cX2_wearOut 6 (.irem) 1 7 := by decide +kernel
theorem dX2_wearOut_7 : am_at cX2_wearOut 7 (.istore_n 3) 1 8 := by decide +kernel
theorem dX2_wearOut_8 : am_at cX2_wearOut 8 (.aload_n 0) 1 9 := by decide +kernel
theorem dX2_wearOut_9 : am_at cX2_wearOut 9 (.getfield 44) 3 12 := by decide +kernel
theorem dX2_wearOut_12 : am_at cX2_wearOut 12 (.iconst 1) 1 13 := by decide +kernel
theorem dX2_wearOut_13 : am_at cX2_wearOut 13 (.iaload) 1 14 := by decide +kernel
theorem dX2_wearOut_14 : am_at cX2_wearOut 14 (.istore 4) 2 16 := by decide +kernel
theorem dX2_wearOut_16 : am_at cX2_wearOut 16 (.iload 4) 2 18 := by decide +kernel
theorem dX2_wearOut_18 : am_at cX2_wearOut 18 (.iconst (-1)) 1 19 := by decide +kernel
theorem dX2_wearOut_19 : am_at cX2_wearOut 19 (.if_icmp .ne 9) 3 22 := by decide +kernel
theorem dX2_wearOut_22 : am_at cX2_wearOut 22 (.iload_n 3) 1 23 := by decide +kernel
theorem dX2_wearOut_23 : am_at cX2_wearOut 23 (.iconst 4) 1 24 := by decide +kernel
theorem dX2_wearOut_24 : am_at cX2_wearOut 24 (.idiv) 1 25 := by decide +kernel
theorem dX2_wearOut_25 : am_at cX2_wearOut 25 (.goto 20) 3 28 := by decide +kernel
theorem dX2_wearOut_28 : am_at cX2_wearOut 28 (.aload_n 2) 1 29 := by decide +kernel
theorem dX2_wearOut_29 : am_at cX2_wearOut 29 (.iload 4) 2 31 := by decide +kernel
theorem dX2_wearOut_31 : am_at cX2_wearOut 31 (.iload_n 3) 1 32 := by decide +kernel
theorem dX2_wearOut_32 : am_at cX2_wearOut 32 (.aload_n 1) 1 33 := by decide +kernel
theorem dX2_wearOut_33 : am_at cX2_wearOut 33 (.getfield 80) 3 36 := by decide +kernel
theorem dX2_wearOut_36 : am_at cX2_wearOut 36 (.iconst 0) 1 37 := by decide +kernel
theorem dX2_wearOut_37 : am_at cX2_wearOut 37 (.invokevirtual 92) 3 40 := by decide +kernel
theorem dX2_wearOut_40 : am_at cX2_wearOut 40 (.bipush 20) 2 42 := by decide +kernel
theorem dX2_wearOut_42 : am_at cX2_wearOut 42 (.invokestatic 97) 3 45 := by decide +kernel
theorem dX2_wearOut_45 : am_at cX2_wearOut 45 (.istore 5) 2 47 := by decide +kernel
theorem dX2_wearOut_47 : am_at cX2_wearOut 47 (.aload_n 1) 1 48 := by decide +kernel
theorem dX2_wearOut_48 : am_at cX2_wearOut 48 (.bipush 99) 2 50 := by decide +kernel
theorem dX2_wearOut_50 : am_at cX2_wearOut 50 (.aload_n 1) 1 51 := by decide +kernel
theorem dX2_wearOut_51 : am_at cX2_wearOut 51 (.getfield 73) 3 54 := by decide +kernel
theorem dX2_wearOut_54 : am_at cX2_wearOut 54 (.iload 5) 2 56 := by decide +kernel
theorem dX2_wearOut_56 : am_at cX2_wearOut 56 (.iadd) 1 57 := by decide +kernel
theorem dX2_wearOut_57 : am_at cX2_wearOut 57 (.invokestatic 89) 3 60 := by decide +kernel
theorem dX2_wearOut_60 : am_at cX2_wearOut 60 (.putfield 73) 3 63 := by decide +kernel
theorem dX2_wearOut_63 : am_at cX2_wearOut 63 (.aload_n 0) 1 64 := by decide +kernel
theorem dX2_wearOut_64 : am_at cX2_wearOut 64 (.invokevirtual 60) 3 67 := by decide +kernel
theorem dX2_wearOut_67 : am_at cX2_wearOut 67 (.bipush 100) 2 69 := by decide +kernel
theorem dX2_wearOut_69 : am_at cX2_wearOut 69 (.irem) 1 70 := by decide +kernel
theorem dX2_wearOut_70 : am_at cX2_wearOut 70 (.aload_n 0) 1 71 := by decide +kernel
theorem dX2_wearOut_71 : am_at cX2_wearOut 71 (.getfield 22) 3 74 := by decide +kernel
theorem dX2_wearOut_74 : am_at cX2_wearOut 74 (.if_icmp .ge 8) 3 77 := by decide +kernel
theorem dX2_wearOut_77 : am_at cX2_wearOut 77 (.aload_n 1) 1 78 := by decide +kernel
theorem dX2_wearOut_78 : am_at cX2_wearOut 78 (.iconst 1) 1 79 := by decide +kernel
theorem dX2_wearOut_79 : am_at cX2_wearOut 79 (.putfield 69) 3 82 := by decide +kernel
theorem dX2_wearOut_82 : am_at cX2_wearOut 82 (.return_) 1 83 := by decide +kernel
def fxX2_wearOut_b45 (l0 : Option Nat) (l1 : Option Nat) (s0 : Int32) (h : am_H) : Option (Unit × am_H) := am_lt s0 (fun x10 => am_gd (am_ob h l1 1) (am_gd (am_ob h l1 1) (am_lt (am_si h l1 4 (am_mmin (99 : Int32) ((am_gi h l1 4) + x10))) (fun h11 => am_gd (am_ob h11 l0 2) (am_bd (fxX2_draw l0 h11) (fun r12 h13 => am_gd (am_nz (100 : Int32)) (am_gd (am_ob h13 l0 2) (if (am_gi h13 l0 2) ≤ (am_rem r12 (100 : Int32)) then (some ((), h13)) else (am_gd (am_ob h13 l1 1 && am_bz (1 : Int32)) (am_lt (am_si h13 l1 5 (1 : Int32)) (fun h14 => some ((), h14))))))))))))
set_option maxRecDepth 100000 in
theorem sxX2_wearOut_b45 {xs : List Int32} (l0 : Option Nat) (l1 : Option Nat) (s0 : Int32) (h : am_H) : am_Sm xs am_cu mX2_wearOut 3 0 0 45 [some (am_R l0), some (am_R l1), none, none, none, none] [am_I s0] h (fxX2_wearOut_b45 l0 l1 s0 h) := by
  unfold fxX2_wearOut_b45
  refine am_istore (LL := fun y9 => [some (am_R l0), some (am_R l1), none, none, none, some (am_I y9)]) dX2_wearOut_45 (by decide) (fun _ => rfl) (fun x10 => ?_)
  refine am_aload_n dX2_wearOut_47 rfl ?_
  refine am_bipush (v := 99) dX2_wearOut_48 (by decide) ?_
  refine am_aload_n dX2_wearOut_50 rfl ?_
  refine am_getI dX2_wearOut_51 fk_RX2_73 rfl ?_
  refine am_iload dX2_wearOut_54 rfl ?_
  refine am_iadd dX2_wearOut_56 ?_
  refine am_mmin9 dX2_wearOut_57 wd406 wd407 wd12 wd408 (by decide) (Nat.le_of_ble_eq_true rfl) ?_
  refine am_putI dX2_wearOut_60 fk_RX2_73 ⟨_, rfl, Or.inl rfl⟩ rfl (fun h11 => ?_)
  refine am_aload_n dX2_wearOut_63 rfl ?_
  refine am_callV (cvj := am_ci) (mtj := mX2_draw) (dj := 0) (nj := 0) (rcj := 0) (rsj := 0) (rc' := 0) (rs' := 0) (ci := 2) (st' := fun a9 => (am_I a9 :: [])) ⟨_, rfl, rfl⟩ [] [] dX2_wearOut_64 okX2_draw lk_RX2_60 (fun zA zH zE => txX2_draw l0 h11 zA zH zE) rfl (fun _ => rfl) (by decide) rfl (Nat.le_of_ble_eq_true rfl) (by decide) (by decide) (fun r12 h13 => ?_)
  refine am_bipush (v := 100) dX2_wearOut_67 (by decide) ?_
  refine am_irem dX2_wearOut_69 ?_
  refine am_aload_n dX2_wearOut_70 rfl ?_
  refine am_getI dX2_wearOut_71 fk_RX2_22 rfl ?_
  refine am_icmp_ge (tgt := 82) dX2_wearOut_74 (by decide) (fun c15 => ?_) (fun c15 => ?_)
  · exact am_vret dX2_wearOut_82 rfl rfl
  refine am_aload_n dX2_wearOut_77 rfl ?_
  refine am_iconst (v := 1) dX2_wearOut_78 (by decide) ?_
  refine am_putZ dX2_wearOut_79 fk_RX2_69 ⟨_, rfl, Or.inl rfl⟩ rfl (fun h14 => ?_)
  exact am_vret dX2_wearOut_82 rfl rfl
def fxX2_wearOut (l0 : Option Nat) (l1 : Option Nat) (l2 : Option Nat) (h : am_H) : Option (Unit × am_H) := am_gd (am_ob h l0 2) (am_bd (fxX2_draw l0 h) (fun r1 h2 => am_gd (am_nz (10 : Int32)) (am_lt (am_rem r1 (10 : Int32)) (fun x3 => am_gd (am_ob h2 l0 2) (am_gd (am_ix h2 (am_gr h2 l0 9) 0 (1 : Int32)) (am_lt (am_gi h2 (am_gr h2 l0 9) (1 : Int32).toNatClampNeg) (fun x4 => if x4 = (-1 : Int32) then (am_gd (am_nz (4 : Int32)) (fxX2_wearOut_b45 l0 l1 (x3 / (4 : Int32)) h2)) else (am_gd (am_ob h2 l1 1) (am_gd (am_ob h2 l2 0) (am_bd (fxX0_give l2 x4 x3 (am_gi h2 l1 3) (0 : Int32) h2) (fun r5 h6 => am_bd (fxX9_held r5 (20 : Int32) h6) (fun r7 h8 => fxX2_wearOut_b45 l0 l1 r7 h8))))))))))))
set_option maxRecDepth 100000 in
theorem sxX2_wearOut {xs : List Int32} (l0 : Option Nat) (l1 : Option Nat) (l2 : Option Nat) (h : am_H) : am_Sm xs am_cu mX2_wearOut 3 0 0 0 [some (am_R l0), some (am_R l1), some (am_R l2), none, none, none] [] h (fxX2_wearOut l0 l1 l2 h) := by
  unfold fxX2_wearOut
  refine am_aload_n dX2_wearOut_0 rfl ?_
  refine am_callV (cvj := am_ci) (mtj := mX2_draw) (dj := 0) (nj := 0) (rcj := 0) (rsj := 0) (rc' := 0) (rs' := 0) (ci := 2) (st' := fun a9 => (am_I a9 :: [])) ⟨_, rfl, rfl⟩ [] [] dX2_wearOut_1 okX2_draw lk_RX2_60 (fun zA zH zE => txX2_draw l0 h zA zH zE) rfl (fun _ => rfl) (by decide) rfl (Nat.le_of_ble_eq_true rfl) (by decide) (by decide) (fun r1 h2 => ?_)
  refine am_bipush (v := 10) dX2_wearOut_4 (by decide) ?_
  refine am_irem dX2_wearOut_6 ?_
  refine am_istore_n (LL := fun y9 => [some (am_R l0), some (am_R l1), some (am_R l2), some (am_I y9), none, none]) dX2_wearOut_7 (by decide) (fun _ => rfl) (fun x3 => ?_)
  refine am_aload_n dX2_wearOut_8 rfl ?_
  refine am_getR dX2_wearOut_9 fk_RX2_44 rfl ?_
  refine am_iconst (v := 1) dX2_wearOut_12 (by decide) ?_
  refine am_iald dX2_wearOut_13 ?_
  refine am_istore (LL := fun y9 => [some (am_R l0), some (am_R l1), some (am_R l2), some (am_I x3), some (am_I y9), none]) dX2_wearOut_14 (by decide) (fun _ => rfl) (fun x4 => ?_)
  refine am_iload dX2_wearOut_16 rfl ?_
  refine am_iconst (v := (-1)) dX2_wearOut_18 (by decide) ?_
  refine am_icmp_ne (tgt := 28) dX2_wearOut_19 (by decide) (fun c9 => ?_) (fun c9 => ?_)
  · refine am_aload_n dX2_wearOut_28 rfl ?_
    refine am_iload dX2_wearOut_29 rfl ?_
    refine am_iload_n dX2_wearOut_31 rfl ?_
    refine am_aload_n dX2_wearOut_32 rfl ?_
    refine am_getI dX2_wearOut_33 fk_RX2_80 rfl ?_
    refine am_iconst (v := 0) dX2_wearOut_36 (by decide) ?_
    refine am_callV (cvj := am_ci) (mtj := mX0_give) (dj := 2) (nj := 4) (rcj := 0) (rsj := 0) (rc' := 0) (rs' := 0) (ci := 0) (st' := fun a9 => (am_I a9 :: [])) ⟨_, rfl, rfl⟩ [am_I x4, am_I x3, am_I (am_gi h2 l1 3), am_I (0 : Int32)] [] dX2_wearOut_37 okX0_give lk_RX2_92 (fun zA zH zE => txX0_give l2 x4 x3 (am_gi h2 l1 3) (0 : Int32) h2 zA zH zE) rfl (fun _ => rfl) (by decide) rfl (Nat.le_of_ble_eq_true rfl) (by decide) (by decide) (fun r5 h6 => ?_)
    refine am_bipush (v := 20) dX2_wearOut_40 (by decide) ?_
    refine am_callS (cvj := am_ci) (mtj := mX9_held) (dj := 1) (nj := 2) (rcj := 0) (rsj := 0) (rc' := 0) (rs' := 0) (st' := fun a9 => (am_I a9 :: [])) [am_I r5, am_I (20 : Int32)] [] dX2_wearOut_42 okX9_held lk_RX2_97 (fun zA zH zE => txX9_held r5 (20 : Int32) h6 zA zH zE) rfl (fun _ => rfl) (by decide) rfl (Nat.le_of_ble_eq_true rfl) (by decide) (by decide) (fun r7 h8 => ?_)
    exact am_weak (sxX2_wearOut_b45 l0 l1 r7 h8) ⟨rfl, ⟨rfl, trivial⟩⟩ (Nat.le_refl _) (Nat.le_refl _)
  refine am_iload_n dX2_wearOut_22 rfl ?_
  refine am_iconst (v := 4) dX2_wearOut_23 (by decide) ?_
  refine am_idiv dX2_wearOut_24 ?_
  refine am_goto (tgt := 45) dX2_wearOut_25 (by decide) ?_
  exact am_weak (sxX2_wearOut_b45 l0 l1 (x3 / (4 : Int32)) h2) ⟨rfl, ⟨rfl, trivial⟩⟩ (Nat.le_refl _) (Nat.le_refl _)
theorem txX2_wearOut {xs : List Int32} (l0 : Option Nat) (l1 : Option Nat) (l2 : Option Nat) (h : am_H) (a : Unit) (h2 : am_H) (e : fxX2_wearOut l0 l1 l2 h = some (a, h2)) : am_Ct xs mX2_wearOut 3 0 0 [am_R l0, am_R l1, am_R l2] h (fun v h3 => v = am_cu a ∧ h3 = h2) := am_meth okX2_wearOut (Nat.le_of_ble_eq_true rfl) rfl (sxX2_wearOut l0 l1 l2 h) e
theorem dX2_live_0 : am_at cX2_live 0 (.iconst 0) 1 1 := by decide +kernel
theorem dX2_live_1 : am_at cX2_live 1 (.istore 4) 2 3 := by decide +kernel
theorem dX2_live_3 : am_at cX2_live 3 (.iload 4) 2 5 := by decide +kernel
theorem dX2_live_5 : am_at cX2_live 5 (.iload_n 1) 1 6 := by decide +kernel
theorem dX2_live_6 : am_at cX2_live 6 (.if_icmp .ge 68) 3 9 := by decide +kernel
theorem dX2_live_9 : am_at cX2_live 9 (.iconst 0) 1 10 := by decide +kernel
theorem dX2_live_10 : am_at cX2_live 10 (.istore 5) 2 12 := by decide +kernel
theorem dX2_live_12 : am_at cX2_live 12 (.iload 5) 2 14 := by decide +kernel
theorem dX2_live_14 : am_at cX2_live 14 (.aload_n 0) 1 15 := by decide +kernel
theorem dX2_live_15 : am_at cX2_live 15 (.getfield 18) 3 18 := by decide +kernel
theorem dX2_live_18 : am_at cX2_live 18 (.if_icmp .ge 40) 3 21 := by decide +kernel
theorem dX2_live_21 : am_at cX2_live 21 (.iload 5) 2 23 := by decide +kernel
theorem dX2_live_23 : am_at cX2_live 23 (.iload_n 2) 1 24 := by decide +kernel
theorem dX2_live_24 : am_at cX2_live 24 (.if_icmp .eq 28) 3 27 := by decide +kernel
theorem dX2_live_27 : am_at cX2_live 27 (.aload_n 0) 1 28 := by decide +kernel
theorem dX2_live_28 : am_at cX2_live 28 (.getfield 11) 3 31 := by decide +kernel
theorem dX2_live_31 : am_at cX2_live 31 (.iload 5) 2 33 := by decide +kernel
theorem dX2_live_33 : am_at cX2_live 33 (.aaload) 1 34 := by decide +kernel
theorem dX2_live_34 : am_at cX2_live 34 (.getfield 69) 3 37 := by decide +kernel
theorem dX2_live_37 : am_at cX2_live 37 (.ifCond .ne 15) 3 40 := by decide +kernel
theorem dX2_live_40 : am_at cX2_live 40 (.aload_n 0) 1 41 := by decide +kernel
theorem dX2_live_41 : am_at cX2_live 41 (.aload_n 0) 1 42 := by decide +kernel
theorem dX2_live_42 : am_at cX2_live 42 (.getfield 11) 3 45 := by decide +kernel
theorem dX2_live_45 : am_at cX2_live 45 (.iload 5) 2 47 := by decide +kernel
theorem dX2_live_47 : am_at cX2_live 47 (.aaload) 1 48 := by decide +kernel
theorem dX2_live_48 : am_at cX2_live 48 (.aload_n 3) 1 49 := by decide +kernel
theorem dX2_live_49 : am_at cX2_live 49 (.invokevirtual 100) 3 52 := by decide +kernel
theorem dX2_live_52 : am_at cX2_live 52 (.iinc 5 1) 3 55 := by decide +kernel
theorem dX2_live_55 : am_at cX2_live 55 (.goto (-43)) 3 58 := by decide +kernel
theorem dX2_live_58 : am_at cX2_live 58 (.aload_n 0) 1 59 := by decide +kernel
theorem dX2_live_59 : am_at cX2_live 59 (.dup) 1 60 := by decide +kernel
theorem dX2_live_60 : am_at cX2_live 60 (.getfield 25) 3 63 := by decide +kernel
theorem dX2_live_63 : am_at cX2_live 63 (.iconst 1) 1 64 := by decide +kernel
theorem dX2_live_64 : am_at cX2_live 64 (.iadd) 1 65 := by decide +kernel
theorem dX2_live_65 : am_at cX2_live 65 (.putfield 25) 3 68 := by decide +kernel
theorem dX2_live_68 : am_at cX2_live 68 (.iinc 4 1) 3 71 := by decide +kernel
theorem dX2_live_71 : am_at cX2_live 71 (.goto (-68)) 3 74 := by decide +kernel
theorem dX2_live_74 : am_at cX2_live 74 (.return_) 1 75 := by decide +kernel
def fxX2_live_b52 (k3 : Option Nat → Int32 → Int32 → Option Nat → Int32 → am_H → Option (Unit × am_H)) (k12 : Option Nat → Int32 → Int32 → Option Nat → Int32 → Int32 → am_H → Option (Unit × am_H)) (l0 : Option Nat) (l1 : Int32) (l2 : Int32) (l3 : Option Nat) (l4 : Int32) (l5 : Int32) (h : am_H) : Option (Unit × am_H) := am_lt (l5 + 1) (fun x10 => k12 l0 l1 l2 l3 l4 x10 h)
set_option maxRecDepth 100000 in
theorem sxX2_live_b52 {xs : List Int32} (k3 : Option Nat → Int32 → Int32 → Option Nat → Int32 → am_H → Option (Unit × am_H)) (hk3 : ∀ (l0 : Option Nat) (l1 : Int32) (l2 : Int32) (l3 : Option Nat) (l4 : Int32) (h : am_H), am_Sm xs am_cu mX2_live 4 0 0 3 [some (am_R l0), some (am_I l1), some (am_I l2), some (am_R l3), some (am_I l4), none] [] h (k3 l0 l1 l2 l3 l4 h)) (k12 : Option Nat → Int32 → Int32 → Option Nat → Int32 → Int32 → am_H → Option (Unit × am_H)) (hk12 : ∀ (l0 : Option Nat) (l1 : Int32) (l2 : Int32) (l3 : Option Nat) (l4 : Int32) (l5 : Int32) (h : am_H), am_Sm xs am_cu mX2_live 4 0 0 12 [some (am_R l0), some (am_I l1), some (am_I l2), some (am_R l3), some (am_I l4), some (am_I l5)] [] h (k12 l0 l1 l2 l3 l4 l5 h)) (l0 : Option Nat) (l1 : Int32) (l2 : Int32) (l3 : Option Nat) (l4 : Int32) (l5 : Int32) (h : am_H) : am_Sm xs am_cu mX2_live 4 0 0 52 [some (am_R l0), some (am_I l1), some (am_I l2), some (am_R l3), some (am_I l4), some (am_I l5)] [] h (fxX2_live_b52 k3 k12 l0 l1 l2 l3 l4 l5 h) := by
  unfold fxX2_live_b52
  refine am_iinc (v := 1) (LL := fun y9 => [some (am_R l0), some (am_I l1), some (am_I l2), some (am_R l3), some (am_I l4), some (am_I y9)]) dX2_live_52 (by decide) rfl (by decide) (fun _ => rfl) (fun x10 => ?_)
  refine am_goto (tgt := 12) dX2_live_55 (by decide) ?_
  exact am_weak (hk12 l0 l1 l2 l3 l4 x10 h) ⟨rfl, ⟨rfl, ⟨rfl, ⟨rfl, ⟨rfl, ⟨rfl, trivial⟩⟩⟩⟩⟩⟩ (Nat.le_refl _) (Nat.le_refl _)
def fxX2_live_b12 (k3 : Option Nat → Int32 → Int32 → Option Nat → Int32 → am_H → Option (Unit × am_H)) : Nat → Option Nat → Int32 → Int32 → Option Nat → Int32 → Int32 → am_H → Option (Unit × am_H)
  | 0, _, _, _, _, _, _, _ => none
  | n + 1, l0, l1, l2, l3, l4, l5, h => am_gd (am_ob h l0 2) (if (am_gi h l0 1) ≤ l5 then (am_gd (am_ob h l0 2) (am_gd (am_ob h l0 2) (am_lt (am_si h l0 3 ((am_gi h l0 3) + (1 : Int32))) (fun h4 => am_lt (l4 + 1) (fun x5 => k3 l0 l1 l2 l3 x5 h4))))) else (if l5 = l2 then (fxX2_live_b52 k3 (fxX2_live_b12 k3 n) l0 l1 l2 l3 l4 l5 h) else (am_gd (am_ob h l0 2) (am_gd (am_ix h (am_gr h l0 0) 3 l5) (am_gd (am_ob h (am_gr h (am_gr h l0 0) l5.toNatClampNeg) 1) (if (am_gi h (am_gr h (am_gr h l0 0) l5.toNatClampNeg) 5) = 0 then (am_gd (am_ob h l0 2) (am_gd (am_ix h (am_gr h l0 0) 3 l5) (am_gd (am_ob h l0 2) (am_bd (fxX2_wearOut l0 (am_gr h (am_gr h l0 0) l5.toNatClampNeg) l3 h) (fun _ h6 => fxX2_live_b52 k3 (fxX2_live_b12 k3 n) l0 l1 l2 l3 l4 l5 h6))))) else (fxX2_live_b52 k3 (fxX2_live_b12 k3 n) l0 l1 l2 l3 l4 l5 h)))))))
set_option maxRecDepth 100000 in
theorem sxX2_live_b12 {xs : List Int32} (k3 : Option Nat → Int32 → Int32 → Option Nat → Int32 → am_H → Option (Unit × am_H)) (hk3 : ∀ (l0 : Option Nat) (l1 : Int32) (l2 : Int32) (l3 : Option Nat) (l4 : Int32) (h : am_H), am_Sm xs am_cu mX2_live 4 0 0 3 [some (am_R l0), some (am_I l1), some (am_I l2), some (am_R l3), some (am_I l4), none] [] h (k3 l0 l1 l2 l3 l4 h)) : ∀ (n : Nat) (l0 : Option Nat) (l1 : Int32) (l2 : Int32) (l3 : Option Nat) (l4 : Int32) (l5 : Int32) (h : am_H), am_Sm xs am_cu mX2_live 4 0 0 12 [some (am_R l0), some (am_I l1), some (am_I l2), some (am_R l3), some (am_I l4), some (am_I l5)] [] h (fxX2_live_b12 k3 n l0 l1 l2 l3 l4 l5 h) := by
  intro n
  induction n with
  | zero => intros; exact am_none
  | succ n ih =>
    intro l0 l1 l2 l3 l4 l5 h
    rw [fxX2_live_b12]
    refine am_iload dX2_live_12 rfl ?_
    refine am_aload_n dX2_live_14 rfl ?_
    refine am_getI dX2_live_15 fk_RX2_18 rfl ?_
    refine am_icmp_ge (tgt := 58) dX2_live_18 (by decide) (fun c9 => ?_) (fun c9 => ?_)
    · refine am_aload_n dX2_live_58 rfl ?_
      refine am_dup dX2_live_59 ?_
      refine am_getI dX2_live_60 fk_RX2_25 rfl ?_
      refine am_iconst (v := 1) dX2_live_63 (by decide) ?_
      refine am_iadd dX2_live_64 ?_
      refine am_putI dX2_live_65 fk_RX2_25 ⟨_, rfl, Or.inl rfl⟩ rfl (fun h4 => ?_)
      refine am_iinc (v := 1) (LL := fun y9 => [some (am_R l0), some (am_I l1), some (am_I l2), some (am_R l3), some (am_I y9), some (am_I l5)]) dX2_live_68 (by decide) rfl (by decide) (fun _ => rfl) (fun x5 => ?_)
      refine am_goto (tgt := 3) dX2_live_71 (by decide) ?_
      exact am_weak (hk3 l0 l1 l2 l3 x5 h4) ⟨rfl, ⟨rfl, ⟨rfl, ⟨rfl, ⟨rfl, trivial⟩⟩⟩⟩⟩ (Nat.le_refl _) (Nat.le_refl _)
    refine am_iload dX2_live_21 rfl ?_
    refine am_iload_n dX2_live_23 rfl ?_
    refine am_icmp_eq (tgt := 52) dX2_live_24 (by decide) (fun c8 => ?_) (fun c8 => ?_)
    · exact am_weak (sxX2_live_b52 k3 hk3 (fxX2_live_b12 k3 n) ih l0 l1 l2 l3 l4 l5 h) ⟨rfl, ⟨rfl, ⟨rfl, ⟨rfl, ⟨rfl, ⟨rfl, trivial⟩⟩⟩⟩⟩⟩ (Nat.le_refl _) (Nat.le_refl _)
    refine am_aload_n dX2_live_27 rfl ?_
    refine am_getR dX2_live_28 fk_RX2_11 rfl ?_
    refine am_iload dX2_live_31 rfl ?_
    refine am_aald (t := 3) dX2_live_33 (by decide) (by decide) ?_
    refine am_getI dX2_live_34 fk_RX2_69 rfl ?_
    refine am_if_ne (tgt := 52) dX2_live_37 (by decide) (fun c7 => ?_) (fun c7 => ?_)
    · exact am_weak (sxX2_live_b52 k3 hk3 (fxX2_live_b12 k3 n) ih l0 l1 l2 l3 l4 l5 h) ⟨rfl, ⟨rfl, ⟨rfl, ⟨rfl, ⟨rfl, ⟨rfl, trivial⟩⟩⟩⟩⟩⟩ (Nat.le_refl _) (Nat.le_refl _)
    refine am_aload_n dX2_live_40 rfl ?_
    refine am_aload_n dX2_live_41 rfl ?_
    refine am_getR dX2_live_42 fk_RX2_11 rfl ?_
    refine am_iload dX2_live_45 rfl ?_
    refine am_aald (t := 3) dX2_live_47 (by decide) (by decide) ?_
    refine am_aload_n dX2_live_48 rfl ?_
    refine am_callV (cvj := am_cu) (mtj := mX2_wearOut) (dj := 3) (nj := 2) (rcj := 0) (rsj := 0) (rc' := 0) (rs' := 0) (ci := 2) (st' := fun _ => []) ⟨_, rfl, rfl⟩ [am_R (am_gr h (am_gr h l0 0) l5.toNatClampNeg), am_R l3] [] dX2_live_49 okX2_wearOut lk_RX2_100 (fun zA zH zE => txX2_wearOut l0 (am_gr h (am_gr h l0 0) l5.toNatClampNeg) l3 h zA zH zE) rfl (fun _ => rfl) (by decide) rfl (Nat.le_of_ble_eq_true rfl) (by decide) (by decide) (fun _ h6 => ?_)
    exact am_weak (sxX2_live_b52 k3 hk3 (fxX2_live_b12 k3 n) ih l0 l1 l2 l3 l4 l5 h6) ⟨rfl, ⟨rfl, ⟨rfl, ⟨rfl, ⟨rfl, ⟨rfl, trivial⟩⟩⟩⟩⟩⟩ (Nat.le_refl _) (Nat.le_refl _)
def fxX2_live_b3 : Nat → Option Nat → Int32 → Int32 → Option Nat → Int32 → am_H → Option (Unit × am_H)
  | 0, _, _, _, _, _, _ => none
  | n + 1, l0, l1, l2, l3, l4, h => if l1 ≤ l4 then (some ((), h)) else (am_lt (0 : Int32) (fun x2 => fxX2_live_b12 (fxX2_live_b3 n) am_F l0 l1 l2 l3 l4 x2 h))
set_option maxRecDepth 100000 in
theorem sxX2_live_b3 {xs : List Int32} : ∀ (n : Nat) (l0 : Option Nat) (l1 : Int32) (l2 : Int32) (l3 : Option Nat) (l4 : Int32) (h : am_H), am_Sm xs am_cu mX2_live 4 0 0 3 [some (am_R l0), some (am_I l1), some (am_I l2), some (am_R l3), some (am_I l4), none] [] h (fxX2_live_b3 n l0 l1 l2 l3 l4 h) := by
  intro n
  induction n with
  | zero => intros; exact am_none
  | succ n ih =>
    intro l0 l1 l2 l3 l4 h
    rw [fxX2_live_b3]
    refine am_iload dX2_live_3 rfl ?_
    refine am_iload_n dX2_live_5 rfl ?_
    refine am_icmp_ge (tgt := 74) dX2_live_6 (by decide) (fun c3 => ?_) (fun c3 => ?_)
    · exact am_vret dX2_live_74 rfl rfl
    refine am_iconst (v := 0) dX2_live_9 (by decide) ?_
    refine am_istore (LL := fun y9 => [some (am_R l0), some (am_I l1), some (am_I l2), some (am_R l3), some (am_I l4), some (am_I y9)]) dX2_live_10 (by decide) (fun _ => rfl) (fun x2 => ?_)
    exact am_weak (sxX2_live_b12 (fxX2_live_b3 n) ih am_F l0 l1 l2 l3 l4 x2 h) ⟨rfl, ⟨rfl, ⟨rfl, ⟨rfl, ⟨rfl, ⟨rfl, trivial⟩⟩⟩⟩⟩⟩ (Nat.le_refl _) (Nat.le_refl _)
def fxX2_live (l0 : Option Nat) (l1 : Int32) (l2 : Int32) (l3 : Option Nat) (h : am_H) : Option (Unit × am_H) := am_lt (0 : Int32) (fun x1 => fxX2_live_b3 am_F l0 l1 l2 l3 x1 h)
set_option maxRecDepth 100000 in
theorem sxX2_live {xs : List Int32} (l0 : Option Nat) (l1 : Int32) (l2 : Int32) (l3 : Option Nat) (h : am_H) : am_Sm xs am_cu mX2_live 4 0 0 0 [some (am_R l0), some (am_I l1), some (am_I l2), some (am_R l3), none, none] [] h (fxX2_live l0 l1 l2 l3 h) := by
  unfold fxX2_live
  refine am_iconst (v := 0) dX2_live_0 (by decide) ?_
  refine am_istore (LL := fun y9 => [some (am_R l0), some (am_I l1), some (am_I l2), some (am_R l3), some (am_I y9), none]) dX2_live_1 (by decide) (fun _ => rfl) (fun x1 => ?_)
  exact am_weak (sxX2_live_b3 am_F l0 l1 l2 l3 x1 h) ⟨rfl, ⟨rfl, ⟨rfl, ⟨rfl, ⟨rfl, trivial⟩⟩⟩⟩⟩ (Nat.le_refl _) (Nat.le_refl _)
theorem txX2_live {xs : List Int32} (l0 : Option Nat) (l1 : Int32) (l2 : Int32) (l3 : Option Nat) (h : am_H) (a : Unit) (h2 : am_H) (e : fxX2_live l0 l1 l2 l3 h = some (a, h2)) : am_Ct xs mX2_live 4 0 0 [am_R l0, am_I l1, am_I l2, am_R l3] h (fun v h3 => v = am_cu a ∧ h3 = h2) := am_meth okX2_live (Nat.le_of_ble_eq_true rfl) rfl (sxX2_live l0 l1 l2 l3 h) e
theorem dX3_begin_0 : am_at cX3_begin 0 (.aload_n 0) 1 1 := by decide +kernel
theorem dX3_begin_1 : am_at cX3_begin 1 (.iload_n 1) 1 2 := by decide +kernel
theorem dX3_begin_2 : am_at cX3_begin 2 (.putfield 15) 3 5 := by decide +kernel
theorem dX3_begin_5 : am_at cX3_begin 5 (.aload_n 0) 1 6 := by decide +kernel
theorem dX3_begin_6 : am_at cX3_begin 6 (.iconst 0) 1 7 := by decide +kernel
theorem dX3_begin_7 : am_at cX3_begin 7 (.putfield 19) 3 10 := by decide +kernel
theorem dX3_begin_10 : am_at cX3_begin 10 (.aload_n 0) 1 11 := by decide +kernel
theorem dX3_begin_11 : am_at cX3_begin 11 (.iconst 0) 1 12 := by decide +kernel
theorem dX3_begin_12 : am_at cX3_begin 12 (.putfield 22) 3 15 := by decide +kernel
theorem dX3_begin_15 : am_at cX3_begin 15 (.return_) 1 16 := by decide +kernel
def fxX3_begin (l0 : Option Nat) (l1 : Int32) (h : am_H) : Option (Unit × am_H) := am_gd (am_ob h l0 3) (am_lt (am_si h l0 0 l1) (fun h1 => am_gd (am_ob h1 l0 3) (am_lt (am_si h1 l0 1 (0 : Int32)) (fun h2 => am_gd (am_ob h2 l0 3) (am_lt (am_si h2 l0 3 (0 : Int32)) (fun h3 => some ((), h3)))))))
set_option maxRecDepth 100000 in
theorem sxX3_begin {xs : List Int32} (l0 : Option Nat) (l1 : Int32) (h : am_H) : am_Sm xs am_cu mX3_begin 0 0 0 0 [some (am_R l0), some (am_I l1)] [] h (fxX3_begin l0 l1 h) := by
  unfold fxX3_begin
  refine am_aload_n dX3_begin_0 rfl ?_
  refine am_iload_n dX3_begin_1 rfl ?_
  refine am_putI dX3_begin_2 fk_RX3_15 ⟨_, rfl, Or.inl rfl⟩ rfl (fun h1 => ?_)
  refine am_aload_n dX3_begin_5 rfl ?_
  refine am_iconst (v := 0) dX3_begin_6 (by decide) ?_
  refine am_putI dX3_begin_7 fk_RX3_19 ⟨_, rfl, Or.inl rfl⟩ rfl (fun h2 => ?_)
  refine am_aload_n dX3_begin_10 rfl ?_
  refine am_iconst (v := 0) dX3_begin_11 (by decide) ?_
  refine am_putI dX3_begin_12 fk_RX3_22 ⟨_, rfl, Or.inl rfl⟩ rfl (fun h3 => ?_)
  exact am_vret dX3_begin_15 rfl rfl
theorem txX3_begin {xs : List Int32} (l0 : Option Nat) (l1 : Int32) (h : am_H) (a : Unit) (h2 : am_H) (e : fxX3_begin l0 l1 h = some (a, h2)) : am_Ct xs mX3_begin 0 0 0 [am_R l0, am_I l1] h (fun v h3 => v = am_cu a ∧ h3 = h2) := am_meth okX3_begin (Nat.le_of_ble_eq_true rfl) rfl (sxX3_begin l0 l1 h) e
theorem dX3_addCode_0 : am_at cX3_addCode 0 (.aload_n 0) 1 1 := by decide +kernel
theorem dX3_addCode_1 : am_at cX3_addCode 1 (.getfield 22) 3 4 := by decide +kernel
theorem dX3_addCode_4 : am_at cX3_addCode 4 (.bipush 96) 2 6 := by decide +kernel
theorem dX3_addCode_6 : am_at cX3_addCode 6 (.if_icmp .ge 23) 3 9 := by decide +kernel
theorem dX3_addCode_9 : am_at cX3_addCode 9 (.aload_n 0) 1 10 := by decide +kernel
theorem dX3_addCode_10 : am_at cX3_addCode 10 (.getfield 9) 3 13 := by decide +kernel
theorem dX3_addCode_13 : am_at cX3_addCode 13 (.aload_n 0) 1 14 := by decide +kernel
theorem dX3_addCode_14 : am_at cX3_addCode 14 (.getfield 22) 3 17 := by decide +kernel
theorem dX3_addCode_17 : am_at cX3_addCode 17 (.iload_n 1) 1 18 := by decide +kernel
theorem dX3_addCode_18 : am_at cX3_addCode 18 (.iastore) 1 19 := by decide +kernel
theorem dX3_addCode_19 : am_at cX3_addCode 19 (.aload_n 0) 1 20 := by decide +kernel
theorem dX3_addCode_20 : am_at cX3_addCode 20 (.dup) 1 21 := by decide +kernel
theorem dX3_addCode_21 : am_at cX3_addCode 21 (.getfield 22) 3 24 := by decide +kernel
theorem dX3_addCode_24 : am_at cX3_addCode 24 (.iconst 1) 1 25 := by decide +kernel
theorem dX3_addCode_25 : am_at cX3_addCode 25 (.iadd) 1 26 := by decide +kernel
theorem dX3_addCode_26 : am_at cX3_addCode 26 (.putfield 22) 3 29 := by decide +kernel
theorem dX3_addCode_29 : am_at cX3_addCode 29 (.return_) 1 30 := by decide +kernel
def fxX3_addCode (l0 : Option Nat) (l1 : Int32) (h : am_H) : Option (Unit × am_H) := am_gd (am_ob h l0 3) (if (96 : Int32) ≤ (am_gi h l0 3) then (some ((), h)) else (am_gd (am_ob h l0 3) (am_gd (am_ob h l0 3) (am_gd (am_ix h (am_gr h l0 2) 0 (am_gi h l0 3)) (am_lt (am_si h (am_gr h l0 2) (am_gi h l0 3).toNatClampNeg l1) (fun h1 => am_gd (am_ob h1 l0 3) (am_gd (am_ob h1 l0 3) (am_lt (am_si h1 l0 3 ((am_gi h1 l0 3) + (1 : Int32))) (fun h2 => some ((), h2))))))))))
set_option maxRecDepth 100000 in
theorem sxX3_addCode {xs : List Int32} (l0 : Option Nat) (l1 : Int32) (h : am_H) : am_Sm xs am_cu mX3_addCode 0 0 0 0 [some (am_R l0), some (am_I l1)] [] h (fxX3_addCode l0 l1 h) := by
  unfold fxX3_addCode
  refine am_aload_n dX3_addCode_0 rfl ?_
  refine am_getI dX3_addCode_1 fk_RX3_22 rfl ?_
  refine am_bipush (v := 96) dX3_addCode_4 (by decide) ?_
  refine am_icmp_ge (tgt := 29) dX3_addCode_6 (by decide) (fun c3 => ?_) (fun c3 => ?_)
  · exact am_vret dX3_addCode_29 rfl rfl
  refine am_aload_n dX3_addCode_9 rfl ?_
  refine am_getR dX3_addCode_10 fk_RX3_9 rfl ?_
  refine am_aload_n dX3_addCode_13 rfl ?_
  refine am_getI dX3_addCode_14 fk_RX3_22 rfl ?_
  refine am_iload_n dX3_addCode_17 rfl ?_
  refine am_iast dX3_addCode_18 (fun h1 => ?_)
  refine am_aload_n dX3_addCode_19 rfl ?_
  refine am_dup dX3_addCode_20 ?_
  refine am_getI dX3_addCode_21 fk_RX3_22 rfl ?_
  refine am_iconst (v := 1) dX3_addCode_24 (by decide) ?_
  refine am_iadd dX3_addCode_25 ?_
  refine am_putI dX3_addCode_26 fk_RX3_22 ⟨_, rfl, Or.inl rfl⟩ rfl (fun h2 => ?_)
  exact am_vret dX3_addCode_29 rfl rfl
theorem txX3_addCode {xs : List Int32} (l0 : Option Nat) (l1 : Int32) (h : am_H) (a : Unit) (h2 : am_H) (e : fxX3_addCode l0 l1 h = some (a, h2)) : am_Ct xs mX3_addCode 0 0 0 [am_R l0, am_I l1] h (fun v h3 => v = am_cu a ∧ h3 = h2) := am_meth okX3_addCode (Nat.le_of_ble_eq_true rfl) rfl (sxX3_addCode l0 l1 h) e
theorem dX3_addOperand_0 : am_at cX3_addOperand 0 (.aload_n 0) 1 1 := by decide +kernel
theorem dX3_addOperand_1 : am_at cX3_addOperand 1 (.dup) 1 2 := by decide +kernel
theorem dX3_addOperand_2 : am_at cX3_addOperand 2 (.getfield 19) 3 5 := by decide +kernel
theorem dX3_addOperand_5 : am_at cX3_addOperand 5 (.iconst 1) 1 6 := by decide +kernel
theorem dX3_addOperand_6 : am_at cX3_addOperand 6 (.iadd) 1 7 := by decide +kernel
theorem dX3_addOperand_7 : am_at cX3_addOperand 7 (.putfield 19) 3 10 := by decide +kernel
theorem dX3_addOperand_10 : am_at cX3_addOperand 10 (.aload_n 0) 1 11 := by decide +kernel
theorem dX3_addOperand_11 : am_at cX3_addOperand 11 (.iload_n 1) 1 12 := by decide +kernel
theorem dX3_addOperand_12 : am_at cX3_addOperand 12 (.invokevirtual 25) 3 15 := by decide +kernel
theorem dX3_addOperand_15 : am_at cX3_addOperand 15 (.return_) 1 16 := by decide +kernel
def fxX3_addOperand (l0 : Option Nat) (l1 : Int32) (h : am_H) : Option (Unit × am_H) := am_gd (am_ob h l0 3) (am_gd (am_ob h l0 3) (am_lt (am_si h l0 1 ((am_gi h l0 1) + (1 : Int32))) (fun h1 => am_gd (am_ob h1 l0 3) (am_bd (fxX3_addCode l0 l1 h1) (fun _ h2 => some ((), h2))))))
set_option maxRecDepth 100000 in
theorem sxX3_addOperand {xs : List Int32} (l0 : Option Nat) (l1 : Int32) (h : am_H) : am_Sm xs am_cu mX3_addOperand 1 0 0 0 [some (am_R l0), some (am_I l1)] [] h (fxX3_addOperand l0 l1 h) := by
  unfold fxX3_addOperand
  refine am_aload_n dX3_addOperand_0 rfl ?_
  refine am_dup dX3_addOperand_1 ?_
  refine am_getI dX3_addOperand_2 fk_RX3_19 rfl ?_
  refine am_iconst (v := 1) dX3_addOperand_5 (by decide) ?_
  refine am_iadd dX3_addOperand_6 ?_
  refine am_putI dX3_addOperand_7 fk_RX3_19 ⟨_, rfl, Or.inl rfl⟩ rfl (fun h1 => ?_)
  refine am_aload_n dX3_addOperand_10 rfl ?_
  refine am_iload_n dX3_addOperand_11 rfl ?_
  refine am_callV (cvj := am_cu) (mtj := mX3_addCode) (dj := 0) (nj := 1) (rcj := 0) (rsj := 0) (rc' := 0) (rs' := 0) (ci := 3) (st' := fun _ => []) ⟨_, rfl, rfl⟩ [am_I l1] [] dX3_addOperand_12 okX3_addCode lk_RX3_25 (fun zA zH zE => txX3_addCode l0 l1 h1 zA zH zE) rfl (fun _ => rfl) (by decide) rfl (Nat.le_of_ble_eq_true rfl) (by decide) (by decide) (fun _ h2 => ?_)
  exact am_vret dX3_addOperand_15 rfl rfl
theorem txX3_addOperand {xs : List Int32} (l0 : Option Nat) (l1 : Int32) (h : am_H) (a : Unit) (h2 : am_H) (e : fxX3_addOperand l0 l1 h = some (a, h2)) : am_Ct xs mX3_addOperand 1 0 0 [am_R l0, am_I l1] h (fun v h3 => v = am_cu a ∧ h3 = h2) := am_meth okX3_addOperand (Nat.le_of_ble_eq_true rfl) rfl (sxX3_addOperand l0 l1 h) e
theorem dX4_freeWord_0 : am_at cX4_freeWord 0 (.iload_n 1) 1 1 := by decide +kernel
theorem dX4_freeWord_1 : am_at cX4_freeWord 1 (.istore_n 2) 1 2 := by decide +kernel
theorem dX4_freeWord_2 : am_at cX4_freeWord 2 (.iconst 0) 1 3 := by decide +kernel
theorem dX4_freeWord_3 : am_at cX4_freeWord 3 (.istore_n 3) 1 4 := by decide +kernel
theorem dX4_freeWord_4 : am_at cX4_freeWord 4 (.iload_n 3) 1 5 := by decide +kernel
theorem dX4_freeWord_5 : am_at cX4_freeWord 5 (.iconst 5) 1 6 := by decide +kernel
theorem dX4_freeWord_6 : am_at cX4_freeWord 6 (.if_icmp .ge 26) 3 9 := by decide +kernel
theorem dX4_freeWord_9 : am_at cX4_freeWord 9 (.iload_n 0) 1 10 := by decide +kernel
theorem dX4_freeWord_10 : am_at cX4_freeWord 10 (.iload_n 3) 1 11 := by decide +kernel
theorem dX4_freeWord_11 : am_at cX4_freeWord 11 (.ishr) 1 12 := by decide +kernel
theorem dX4_freeWord_12 : am_at cX4_freeWord 12 (.iconst 1) 1 13 := by decide +kernel
theorem dX4_freeWord_13 : am_at cX4_freeWord 13 (.iand) 1 14 := by decide +kernel
theorem dX4_freeWord_14 : am_at cX4_freeWord 14 (.ifCond .ne 12) 3 17 := by decide +kernel
theorem dX4_freeWord_17 : am_at cX4_freeWord 17 (.iload_n 2) 1 18 := by decide +kernel
theorem dX4_freeWord_18 : am_at cX4_freeWord 18 (.ifCond .ne 5) 3 21 := by decide +kernel
theorem dX4_freeWord_21 : am_at cX4_freeWord 21 (.iload_n 3) 1 22 := by decide +kernel
theorem dX4_freeWord_22 : am_at cX4_freeWord 22 (.ireturn) 1 23 := by decide +kernel
theorem dX4_freeWord_23 : am_at cX4_freeWord 23 (.iinc 2 (-1)) 3 26 := by decide +kernel
theorem dX4_freeWord_26 : am_at cX4_freeWord 26 (.iinc 3 1) 3 29 := by decide +kernel
theorem dX4_freeWord_29 : am_at cX4_freeWord 29 (.goto (-25)) 3 32 := by decide +kernel
theorem dX4_freeWord_32 : am_at cX4_freeWord 32 (.iconst 0) 1 33 := by decide +kernel
theorem dX4_freeWord_33 : am_at cX4_freeWord 33 (.ireturn) 1 34 := by decide +kernel
def fxX4_freeWord_b26 (k4 : Int32 → Int32 → Int32 → am_H → Option (Int32 × am_H)) (l0 : Int32) (l2 : Int32) (l3 : Int32) (h : am_H) : Option (Int32 × am_H) := am_lt (l3 + 1) (fun x7 => k4 l0 l2 x7 h)
set_option maxRecDepth 100000 in
theorem sxX4_freeWord_b26 {xs : List Int32} (k4 : Int32 → Int32 → Int32 → am_H → Option (Int32 × am_H)) (hk4 : ∀ (l0 : Int32) (l2 : Int32) (l3 : Int32) (h : am_H), am_Sm xs am_ci mX4_freeWord 0 0 0 4 [some (am_I l0), none, some (am_I l2), some (am_I l3)] [] h (k4 l0 l2 l3 h)) (l0 : Int32) (l2 : Int32) (l3 : Int32) (h : am_H) : am_Sm xs am_ci mX4_freeWord 0 0 0 26 [some (am_I l0), none, some (am_I l2), some (am_I l3)] [] h (fxX4_freeWord_b26 k4 l0 l2 l3 h) := by
  unfold fxX4_freeWord_b26
  refine am_iinc (v := 1) (LL := fun y9 => [some (am_I l0), none, some (am_I l2), some (am_I y9)]) dX4_freeWord_26 (by decide) rfl (by decide) (fun _ => rfl) (fun x7 => ?_)
  refine am_goto (tgt := 4) dX4_freeWord_29 (by decide) ?_
  exact am_weak (hk4 l0 l2 x7 h) ⟨rfl, ⟨rfl, ⟨rfl, trivial⟩⟩⟩ (Nat.le_refl _) (Nat.le_refl _)
def fxX4_freeWord_b4 : Nat → Int32 → Int32 → Int32 → am_H → Option (Int32 × am_H)
  | 0, _, _, _, _ => none
  | n + 1, l0, l2, l3, h => if (5 : Int32) ≤ l3 then (some ((0 : Int32), h)) else (if ((l0 >>> (l3 &&& 31)) &&& (1 : Int32)) = 0 then (if l2 = 0 then (some (l3, h)) else (am_lt (l2 + (-1)) (fun x3 => fxX4_freeWord_b26 (fxX4_freeWord_b4 n) l0 x3 l3 h))) else (fxX4_freeWord_b26 (fxX4_freeWord_b4 n) l0 l2 l3 h))
set_option maxRecDepth 100000 in
theorem sxX4_freeWord_b4 {xs : List Int32} : ∀ (n : Nat) (l0 : Int32) (l2 : Int32) (l3 : Int32) (h : am_H), am_Sm xs am_ci mX4_freeWord 0 0 0 4 [some (am_I l0), none, some (am_I l2), some (am_I l3)] [] h (fxX4_freeWord_b4 n l0 l2 l3 h) := by
  intro n
  induction n with
  | zero => intros; exact am_none
  | succ n ih =>
    intro l0 l2 l3 h
    rw [fxX4_freeWord_b4]
    refine am_iload_n dX4_freeWord_4 rfl ?_
    refine am_iconst (v := 5) dX4_freeWord_5 (by decide) ?_
    refine am_icmp_ge (tgt := 32) dX4_freeWord_6 (by decide) (fun c6 => ?_) (fun c6 => ?_)
    · refine am_iconst (v := 0) dX4_freeWord_32 (by decide) ?_
      exact am_iret dX4_freeWord_33 rfl rfl
    refine am_iload_n dX4_freeWord_9 rfl ?_
    refine am_iload_n dX4_freeWord_10 rfl ?_
    refine am_ishr dX4_freeWord_11 ?_
    refine am_iconst (v := 1) dX4_freeWord_12 (by decide) ?_
    refine am_iand dX4_freeWord_13 ?_
    refine am_if_ne (tgt := 26) dX4_freeWord_14 (by decide) (fun c5 => ?_) (fun c5 => ?_)
    · exact am_weak (sxX4_freeWord_b26 (fxX4_freeWord_b4 n) ih l0 l2 l3 h) ⟨rfl, ⟨rfl, ⟨rfl, trivial⟩⟩⟩ (Nat.le_refl _) (Nat.le_refl _)
    refine am_iload_n dX4_freeWord_17 rfl ?_
    refine am_if_ne (tgt := 23) dX4_freeWord_18 (by decide) (fun c4 => ?_) (fun c4 => ?_)
    · refine am_iinc (v := (-1)) (LL := fun y9 => [some (am_I l0), none, some (am_I y9), some (am_I l3)]) dX4_freeWord_23 (by decide) rfl (by decide) (fun _ => rfl) (fun x3 => ?_)
      exact am_weak (sxX4_freeWord_b26 (fxX4_freeWord_b4 n) ih l0 x3 l3 h) ⟨rfl, ⟨rfl, ⟨rfl, trivial⟩⟩⟩ (Nat.le_refl _) (Nat.le_refl _)
    refine am_iload_n dX4_freeWord_21 rfl ?_
    exact am_iret dX4_freeWord_22 rfl rfl
def fxX4_freeWord (l0 : Int32) (l1 : Int32) (h : am_H) : Option (Int32 × am_H) := am_lt l1 (fun x1 => am_lt (0 : Int32) (fun x2 => fxX4_freeWord_b4 am_F l0 x1 x2 h))
set_option maxRecDepth 100000 in
theorem sxX4_freeWord {xs : List Int32} (l0 : Int32) (l1 : Int32) (h : am_H) : am_Sm xs am_ci mX4_freeWord 0 0 0 0 [some (am_I l0), some (am_I l1), none, none] [] h (fxX4_freeWord l0 l1 h) := by
  unfold fxX4_freeWord
  refine am_iload_n dX4_freeWord_0 rfl ?_
  refine am_istore_n (LL := fun y9 => [some (am_I l0), some (am_I l1), some (am_I y9), none]) dX4_freeWord_1 (by decide) (fun _ => rfl) (fun x1 => ?_)
  refine am_iconst (v := 0) dX4_freeWord_2 (by decide) ?_
  refine am_istore_n (LL := fun y9 => [some (am_I l0), some (am_I l1), some (am_I x1), some (am_I y9)]) dX4_freeWord_3 (by decide) (fun _ => rfl) (fun x2 => ?_)
  exact am_weak (sxX4_freeWord_b4 am_F l0 x1 x2 h) ⟨rfl, ⟨rfl, ⟨rfl, trivial⟩⟩⟩ (Nat.le_refl _) (Nat.le_refl _)
theorem txX4_freeWord {xs : List Int32} (l0 : Int32) (l1 : Int32) (h : am_H) (a : Int32) (h2 : am_H) (e : fxX4_freeWord l0 l1 h = some (a, h2)) : am_Ct xs mX4_freeWord 0 0 0 [am_I l0, am_I l1] h (fun v h3 => v = am_ci a ∧ h3 = h2) := am_meth okX4_freeWord (Nat.le_of_ble_eq_true rfl) rfl (sxX4_freeWord l0 l1 h) e
theorem dX4_holds_0 : am_at cX4_holds 0 (.iconst 0) 1 1 := by decide +kernel
theorem dX4_holds_1 : am_at cX4_holds 1 (.istore_n 3) 1 2 := by decide +kernel
theorem dX4_holds_2 : am_at cX4_holds 2 (.iload_n 3) 1 3 := by decide +kernel
theorem dX4_holds_3 : am_at cX4_holds 3 (.aload_n 2) 1 4 := by decide +kernel
theorem dX4_holds_4 : am_at cX4_holds 4 (.getfield 30) 3 7 := by decide +kernel
theorem dX4_holds_7 : am_at cX4_holds 7 (.if_icmp .ge 35) 3 10 := by decide +kernel
theorem dX4_holds_10 : am_at cX4_holds 10 (.aload_n 0) 1 11 := by decide +kernel
theorem dX4_holds_11 : am_at cX4_holds 11 (.getfield 9) 3 14 := by decide +kernel
theorem dX4_holds_14 : am_at cX4_holds 14 (.iload_n 1) 1 15 := by decide +kernel
theorem dX4_holds_15 : am_at cX4_holds 15 (.iconst 5) 1 16 := by decide +kernel
theorem dX4_holds_16 : am_at cX4_holds 16 (.imul) 1 17 := by decide +kernel
theorem dX4_holds_17 : am_at cX4_holds 17 (.aload_n 2) 1 18 := by decide +kernel
theorem dX4_holds_18 : am_at cX4_holds 18 (.getfield 35) 3 21 := by decide +kernel
theorem dX4_holds_21 : am_at cX4_holds 21 (.iload_n 3) 1 22 := by decide +kernel
theorem dX4_holds_22 : am_at cX4_holds 22 (.iaload) 1 23 := by decide +kernel
theorem dX4_holds_23 : am_at cX4_holds 23 (.iadd) 1 24 := by decide +kernel
theorem dX4_holds_24 : am_at cX4_holds 24 (.iaload) 1 25 := by decide +kernel
theorem dX4_holds_25 : am_at cX4_holds 25 (.aload_n 2) 1 26 := by decide +kernel
theorem dX4_holds_26 : am_at cX4_holds 26 (.getfield 38) 3 29 := by decide +kernel
theorem dX4_holds_29 : am_at cX4_holds 29 (.iload_n 3) 1 30 := by decide +kernel
theorem dX4_holds_30 : am_at cX4_holds 30 (.iaload) 1 31 := by decide +kernel
theorem dX4_holds_31 : am_at cX4_holds 31 (.if_icmp .eq 5) 3 34 := by decide +kernel
theorem dX4_holds_34 : am_at cX4_holds 34 (.iconst 0) 1 35 := by decide +kernel
theorem dX4_holds_35 : am_at cX4_holds 35 (.ireturn) 1 36 := by decide +kernel
theorem dX4_holds_36 : am_at cX4_holds 36 (.iinc 3 1) 3 39 := by decide +kernel
theorem dX4_holds_39 : am_at cX4_holds 39 (.goto (-37)) 3 42 := by decide +kernel
theorem dX4_holds_42 : am_at cX4_holds 42 (.iconst 1) 1 43 := by decide +kernel
theorem dX4_holds_43 : am_at cX4_holds 43 (.ireturn) 1 44 := by decide +kernel
def fxX4_holds_b2 : Nat → Option Nat → Int32 → Option Nat → Int32 → am_H → Option (Int32 × am_H)
  | 0, _, _, _, _, _ => none
  | n + 1, l0, l1, l2, l3, h => am_gd (am_ob h l2 2) (if (am_gi h l2 7) ≤ l3 then (am_gd (am_bz (1 : Int32)) (some ((1 : Int32), h))) else (am_gd (am_ob h l0 4) (am_gd (am_ob h l2 2) (am_gd (am_ix h (am_gr h l2 5) 0 l3) (am_gd (am_ix h (am_gr h l0 0) 0 ((l1 * (5 : Int32)) + (am_gi h (am_gr h l2 5) l3.toNatClampNeg))) (am_gd (am_ob h l2 2) (am_gd (am_ix h (am_gr h l2 6) 0 l3) (if (am_gi h (am_gr h l0 0) ((l1 * (5 : Int32)) + (am_gi h (am_gr h l2 5) l3.toNatClampNeg)).toNatClampNeg) = (am_gi h (am_gr h l2 6) l3.toNatClampNeg) then (am_lt (l3 + 1) (fun x2 => fxX4_holds_b2 n l0 l1 l2 x2 h)) else (am_gd (am_bz (0 : Int32)) (some ((0 : Int32), h)))))))))))
set_option maxRecDepth 100000 in
theorem sxX4_holds_b2 {xs : List Int32} : ∀ (n : Nat) (l0 : Option Nat) (l1 : Int32) (l2 : Option Nat) (l3 : Int32) (h : am_H), am_Sm xs am_ci mX4_holds 0 0 0 2 [some (am_R l0), some (am_I l1), some (am_R l2), some (am_I l3)] [] h (fxX4_holds_b2 n l0 l1 l2 l3 h) := by
  intro n
  induction n with
  | zero => intros; exact am_none
  | succ n ih =>
    intro l0 l1 l2 l3 h
    rw [fxX4_holds_b2]
    refine am_iload_n dX4_holds_2 rfl ?_
    refine am_aload_n dX4_holds_3 rfl ?_
    refine am_getI dX4_holds_4 fk_RX4_30 rfl ?_
    refine am_icmp_ge (tgt := 42) dX4_holds_7 (by decide) (fun c4 => ?_) (fun c4 => ?_)
    · refine am_iconst (v := 1) dX4_holds_42 (by decide) ?_
      exact am_zret dX4_holds_43 rfl rfl
    refine am_aload_n dX4_holds_10 rfl ?_
    refine am_getR dX4_holds_11 fk_RX4_9 rfl ?_
    refine am_iload_n dX4_holds_14 rfl ?_
    refine am_iconst (v := 5) dX4_holds_15 (by decide) ?_
    refine am_imul dX4_holds_16 ?_
    refine am_aload_n dX4_holds_17 rfl ?_
    refine am_getR dX4_holds_18 fk_RX4_35 rfl ?_
    refine am_iload_n dX4_holds_21 rfl ?_
    refine am_iald dX4_holds_22 ?_
    refine am_iadd dX4_holds_23 ?_
    refine am_iald dX4_holds_24 ?_
    refine am_aload_n dX4_holds_25 rfl ?_
    refine am_getR dX4_holds_26 fk_RX4_38 rfl ?_
    refine am_iload_n dX4_holds_29 rfl ?_
    refine am_iald dX4_holds_30 ?_
    refine am_icmp_eq (tgt := 36) dX4_holds_31 (by decide) (fun c3 => ?_) (fun c3 => ?_)
    · refine am_iinc (v := 1) (LL := fun y9 => [some (am_R l0), some (am_I l1), some (am_R l2), some (am_I y9)]) dX4_holds_36 (by decide) rfl (by decide) (fun _ => rfl) (fun x2 => ?_)
      refine am_goto (tgt := 2) dX4_holds_39 (by decide) ?_
      exact am_weak (ih l0 l1 l2 x2 h) ⟨rfl, ⟨rfl, ⟨rfl, ⟨rfl, trivial⟩⟩⟩⟩ (Nat.le_refl _) (Nat.le_refl _)
    refine am_iconst (v := 0) dX4_holds_34 (by decide) ?_
    exact am_zret dX4_holds_35 rfl rfl
def fxX4_holds (l0 : Option Nat) (l1 : Int32) (l2 : Option Nat) (h : am_H) : Option (Int32 × am_H) := am_lt (0 : Int32) (fun x1 => fxX4_holds_b2 am_F l0 l1 l2 x1 h)
set_option maxRecDepth 100000 in
theorem sxX4_holds {xs : List Int32} (l0 : Option Nat) (l1 : Int32) (l2 : Option Nat) (h : am_H) : am_Sm xs am_ci mX4_holds 0 0 0 0 [some (am_R l0), some (am_I l1), some (am_R l2), none] [] h (fxX4_holds l0 l1 l2 h) := by
  unfold fxX4_holds
  refine am_iconst (v := 0) dX4_holds_0 (by decide) ?_
  refine am_istore_n (LL := fun y9 => [some (am_R l0), some (am_I l1), some (am_R l2), some (am_I y9)]) dX4_holds_1 (by decide) (fun _ => rfl) (fun x1 => ?_)
  exact am_weak (sxX4_holds_b2 am_F l0 l1 l2 x1 h) ⟨rfl, ⟨rfl, ⟨rfl, ⟨rfl, trivial⟩⟩⟩⟩ (Nat.le_refl _) (Nat.le_refl _)
theorem txX4_holds {xs : List Int32} (l0 : Option Nat) (l1 : Int32) (l2 : Option Nat) (h : am_H) (a : Int32) (h2 : am_H) (e : fxX4_holds l0 l1 l2 h = some (a, h2)) : am_Ct xs mX4_holds 0 0 0 [am_R l0, am_I l1, am_R l2] h (fun v h3 => v = am_ci a ∧ h3 = h2) := am_meth okX4_holds (Nat.le_of_ble_eq_true rfl) rfl (sxX4_holds l0 l1 l2 h) e
theorem dX4_tally_0 : am_at cX4_tally 0 (.aload_n 0) 1 1 := by decide +kernel
theorem dX4_tally_1 : am_at cX4_tally 1 (.iconst 0) 1 2 := by decide +kernel
theorem dX4_tally_2 : am_at cX4_tally 2 (.putfield 18) 3 5 := by decide +kernel
theorem dX4_tally_5 : am_at cX4_tally 5 (.iconst 0) 1 6 := by decide +kernel
theorem dX4_tally_6 : am_at cX4_tally 6 (.istore_n 2) 1 7 := by decide +kernel
theorem dX4_tally_7 : am_at cX4_tally 7 (.iload_n 2) 1 8 := by decide +kernel
theorem dX4_tally_8 : am_at cX4_tally 8 (.aload_n 0) 1 9 := by decide +kernel
theorem dX4_tally_9 : am_at cX4_tally 9 (.getfield 15) 3 12 := by decide +kernel
theorem dX4_tally_12 : am_at cX4_tally 12 (.arraylength) 1 13 := by decide +kernel
theorem dX4_tally_13 : am_at cX4_tally 13 (.if_icmp .ge 16) 3 16 := by decide +kernel
theorem dX4_tally_16 : am_at cX4_tally 16 (.aload_n 0) 1 17 := by decide +kernel
theorem dX4_tally_17 : am_at cX4_tally 17 (.getfield 15) 3 20 := by decide +kernel
theorem dX4_tally_20 : am_at cX4_tally 20 (.iload_n 2) 1 21 := by decide +kernel
theorem dX4_tally_21 : am_at cX4_tally 21 (.iconst 0) 1 22 := by decide +kernel
theorem dX4_tally_22 : am_at cX4_tally 22 (.iastore) 1 23 := by decide +kernel
theorem dX4_tally_23 : am_at cX4_tally 23 (.iinc 2 1) 3 26 := by decide +kernel
theorem dX4_tally_26 : am_at cX4_tally 26 (.goto (-19)) 3 29 := by decide +kernel
theorem dX4_tally_29 : am_at cX4_tally 29 (.iconst 0) 1 30 := by decide +kernel
theorem dX4_tally_30 : am_at cX4_tally 30 (.istore_n 2) 1 31 := by decide +kernel
theorem dX4_tally_31 : am_at cX4_tally 31 (.iload_n 2) 1 32 := by decide +kernel
theorem dX4_tally_32 : am_at cX4_tally 32 (.bipush 120) 2 34 := by decide +kernel
theorem dX4_tally_34 : am_at cX4_tally 34 (.if_icmp .ge 64) 3 37 := by decide +kernel
theorem dX4_tally_37 : am_at cX4_tally 37 (.aload_n 0) 1 38 := by decide +kernel
theorem dX4_tally_38 : am_at cX4_tally 38 (.iload_n 2) 1 39 := by decide +kernel
theorem dX4_tally_39 : am_at cX4_tally 39 (.aload_n 1) 1 40 := by decide +kernel
theorem dX4_tally_40 : am_at cX4_tally 40 (.invokevirtual 26) 3 43 := by decide +kernel
theorem dX4_tally_43 : am_at cX4_tally 43 (.ifCond .eq 49) 3 46 := by decide +kernel
theorem dX4_tally_46 : am_at cX4_tally 46 (.aload_n 0) 1 47 := by decide +kernel
theorem dX4_tally_47 : am_at cX4_tally 47 (.dup) 1 48 := by decide +kernel
theorem dX4_tally_48 : am_at cX4_tally 48 (.getfield 18) 3 51 := by decide +kernel
theorem dX4_tally_51 : am_at cX4_tally 51 (.iconst 1) 1 52 := by decide +kernel
theorem dX4_tally_52 : am_at cX4_tally 52 (.iadd) 1 53 := by decide +kernel
theorem dX4_tally_53 : am_at cX4_tally 53 (.putfield 18) 3 56 := by decide +kernel
theorem dX4_tally_56 : am_at cX4_tally 56 (.iconst 0) 1 57 := by decide +kernel
theorem dX4_tally_57 : am_at cX4_tally 57 (.istore_n 3) 1 58 := by decide +kernel
theorem dX4_tally_58 : am_at cX4_tally 58 (.iload_n 3) 1 59 := by decide +kernel
theorem dX4_tally_59 : am_at cX4_tally 59 (.iconst 5) 1 60 := by decide +kernel
theorem dX4_tally_60 : am_at cX4_tally 60 (.if_icmp .ge 32) 3 63 := by decide +kernel
theorem dX4_tally_63 : am_at cX4_tally 63 (.aload_n 0) 1 64 := by decide +kernel
theorem dX4_tally_64 : am_at cX4_tally 64 (.getfield 15) 3 67 := by decide +kernel
theorem dX4_tally_67 : am_at cX4_tally 67 (.iload_n 3) 1 68 := by decide +kernel
theorem dX4_tally_68 : am_at cX4_tally 68 (.iconst 5) 1 69 := by decide +kernel
theorem dX4_tally_69 : am_at cX4_tally 69 (.imul) 1 70 := by decide +kernel
theorem dX4_tally_70 : am_at cX4_tally 70 (.aload_n 0) 1 71 := by decide +kernel
theorem dX4_tally_71 : am_at cX4_tally 71 (.getfield 9) 3 74 := by decide +kernel
theorem dX4_tally_74 : am_at cX4_tally 74 (.iload_n 2) 1 75 := by decide +kernel
theorem dX4_tally_75 : am_at cX4_tally 75 (.iconst 5) 1 76 := by decide +kernel
theorem dX4_tally_76 : am_at cX4_tally 76 (.imul) 1 77 := by decide +kernel
theorem dX4_tally_77 : am_at cX4_tally 77 (.iload_n 3) 1 78 := by decide +kernel
theorem dX4_tally_78 : am_at cX4_tally 78 (.iadd) 1 79 := by decide +kernel
theorem dX4_tally_79 : am_at cX4_tally 79 (.iaload) 1 80 := by decide +kernel
theorem dX4_tally_80 : am_at cX4_tally 80 (.iadd) 1 81 := by decide +kernel
theorem dX4_tally_81 : am_at cX4_tally 81 (.dup2) 1 82 := by decide +kernel
theorem dX4_tally_82 : am_at cX4_tally 82 (.iaload) 1 83 := by decide +kernel
theorem dX4_tally_83 : am_at cX4_tally 83 (.iconst 1) 1 84 := by decide +kernel
theorem dX4_tally_84 : am_at cX4_tally 84 (.iadd) 1 85 := by decide +kernel
theorem dX4_tally_85 : am_at cX4_tally 85 (.iastore) 1 86 := by decide +kernel
theorem dX4_tally_86 : am_at cX4_tally 86 (.iinc 3 1) 3 89 := by decide +kernel
theorem dX4_tally_89 : am_at cX4_tally 89 (.goto (-31)) 3 92 := by decide +kernel
theorem dX4_tally_92 : am_at cX4_tally 92 (.iinc 2 1) 3 95 := by decide +kernel
theorem dX4_tally_95 : am_at cX4_tally 95 (.goto (-64)) 3 98 := by decide +kernel
theorem dX4_tally_98 : am_at cX4_tally 98 (.return_) 1 99 := by decide +kernel
def fxX4_tally_b92 (k31 : Option Nat → Option Nat → Int32 → am_H → Option (Unit × am_H)) (l0 : Option Nat) (l1 : Option Nat) (l2 : Int32) (h : am_H) : Option (Unit × am_H) := am_lt (l2 + 1) (fun x13 => k31 l0 l1 x13 h)
set_option maxRecDepth 100000 in
theorem sxX4_tally_b92 {xs : List Int32} (k31 : Option Nat → Option Nat → Int32 → am_H → Option (Unit × am_H)) (hk31 : ∀ (l0 : Option Nat) (l1 : Option Nat) (l2 : Int32) (h : am_H), am_Sm xs am_cu mX4_tally 1 0 0 31 [some (am_R l0), some (am_R l1), some (am_I l2), none] [] h (k31 l0 l1 l2 h)) (l0 : Option Nat) (l1 : Option Nat) (l2 : Int32) (h : am_H) : am_Sm xs am_cu mX4_tally 1 0 0 92 [some (am_R l0), some (am_R l1), some (am_I l2), none] [] h (fxX4_tally_b92 k31 l0 l1 l2 h) := by
  unfold fxX4_tally_b92
  refine am_iinc (v := 1) (LL := fun y9 => [some (am_R l0), some (am_R l1), some (am_I y9), none]) dX4_tally_92 (by decide) rfl (by decide) (fun _ => rfl) (fun x13 => ?_)
  refine am_goto (tgt := 31) dX4_tally_95 (by decide) ?_
  exact am_weak (hk31 l0 l1 x13 h) ⟨rfl, ⟨rfl, ⟨rfl, trivial⟩⟩⟩ (Nat.le_refl _) (Nat.le_refl _)
def fxX4_tally_b58 (k31 : Option Nat → Option Nat → Int32 → am_H → Option (Unit × am_H)) : Nat → Option Nat → Option Nat → Int32 → Int32 → am_H → Option (Unit × am_H)
  | 0, _, _, _, _, _ => none
  | n + 1, l0, l1, l2, l3, h => if (5 : Int32) ≤ l3 then (fxX4_tally_b92 k31 l0 l1 l2 h) else (am_gd (am_ob h l0 4) (am_gd (am_ob h l0 4) (am_gd (am_ix h (am_gr h l0 0) 0 ((l2 * (5 : Int32)) + l3)) (am_gd (am_ix h (am_gr h l0 1) 0 ((l3 * (5 : Int32)) + (am_gi h (am_gr h l0 0) ((l2 * (5 : Int32)) + l3).toNatClampNeg))) (am_gd (am_ix h (am_gr h l0 1) 0 ((l3 * (5 : Int32)) + (am_gi h (am_gr h l0 0) ((l2 * (5 : Int32)) + l3).toNatClampNeg))) (am_lt (am_si h (am_gr h l0 1) ((l3 * (5 : Int32)) + (am_gi h (am_gr h l0 0) ((l2 * (5 : Int32)) + l3).toNatClampNeg)).toNatClampNeg ((am_gi h (am_gr h l0 1) ((l3 * (5 : Int32)) + (am_gi h (am_gr h l0 0) ((l2 * (5 : Int32)) + l3).toNatClampNeg)).toNatClampNeg) + (1 : Int32))) (fun h14 => am_lt (l3 + 1) (fun x15 => fxX4_tally_b58 k31 n l0 l1 l2 x15 h14))))))))
set_option maxRecDepth 100000 in
theorem sxX4_tally_b58 {xs : List Int32} (k31 : Option Nat → Option Nat → Int32 → am_H → Option (Unit × am_H)) (hk31 : ∀ (l0 : Option Nat) (l1 : Option Nat) (l2 : Int32) (h : am_H), am_Sm xs am_cu mX4_tally 1 0 0 31 [some (am_R l0), some (am_R l1), some (am_I l2), none] [] h (k31 l0 l1 l2 h)) : ∀ (n : Nat) (l0 : Option Nat) (l1 : Option Nat) (l2 : Int32) (l3 : Int32) (h : am_H), am_Sm xs am_cu mX4_tally 1 0 0 58 [some (am_R l0), some (am_R l1), some (am_I l2), some (am_I l3)] [] h (fxX4_tally_b58 k31 n l0 l1 l2 l3 h) := by
  intro n
  induction n with
  | zero => intros; exact am_none
  | succ n ih =>
    intro l0 l1 l2 l3 h
    rw [fxX4_tally_b58]
    refine am_iload_n dX4_tally_58 rfl ?_
    refine am_iconst (v := 5) dX4_tally_59 (by decide) ?_
    refine am_icmp_ge (tgt := 92) dX4_tally_60 (by decide) (fun c16 => ?_) (fun c16 => ?_)
    · exact am_weak (sxX4_tally_b92 k31 hk31 l0 l1 l2 h) ⟨rfl, ⟨rfl, ⟨rfl, trivial⟩⟩⟩ (Nat.le_refl _) (Nat.le_refl _)
    refine am_aload_n dX4_tally_63 rfl ?_
    refine am_getR dX4_tally_64 fk_RX4_15 rfl ?_
    refine am_iload_n dX4_tally_67 rfl ?_
    refine am_iconst (v := 5) dX4_tally_68 (by decide) ?_
    refine am_imul dX4_tally_69 ?_
    refine am_aload_n dX4_tally_70 rfl ?_
    refine am_getR dX4_tally_71 fk_RX4_9 rfl ?_
    refine am_iload_n dX4_tally_74 rfl ?_
    refine am_iconst (v := 5) dX4_tally_75 (by decide) ?_
    refine am_imul dX4_tally_76 ?_
    refine am_iload_n dX4_tally_77 rfl ?_
    refine am_iadd dX4_tally_78 ?_
    refine am_iald dX4_tally_79 ?_
    refine am_iadd dX4_tally_80 ?_
    refine am_dup2 dX4_tally_81 ?_
    refine am_iald dX4_tally_82 ?_
    refine am_iconst (v := 1) dX4_tally_83 (by decide) ?_
    refine am_iadd dX4_tally_84 ?_
    refine am_iast dX4_tally_85 (fun h14 => ?_)
    refine am_iinc (v := 1) (LL := fun y9 => [some (am_R l0), some (am_R l1), some (am_I l2), some (am_I y9)]) dX4_tally_86 (by decide) rfl (by decide) (fun _ => rfl) (fun x15 => ?_)
    refine am_goto (tgt := 58) dX4_tally_89 (by decide) ?_
    exact am_weak (ih l0 l1 l2 x15 h14) ⟨rfl, ⟨rfl, ⟨rfl, ⟨rfl, trivial⟩⟩⟩⟩ (Nat.le_refl _) (Nat.le_refl _)
def fxX4_tally_b31 : Nat → Option Nat → Option Nat → Int32 → am_H → Option (Unit × am_H)
  | 0, _, _, _, _ => none
  | n + 1, l0, l1, l2, h => if (120 : Int32) ≤ l2 then (some ((), h)) else (am_gd (am_ob h l0 4) (am_bd (fxX4_holds l0 l2 l1 h) (fun r7 h8 => if r7 = 0 then (fxX4_tally_b92 (fxX4_tally_b31 n) l0 l1 l2 h8) else (am_gd (am_ob h8 l0 4) (am_gd (am_ob h8 l0 4) (am_lt (am_si h8 l0 2 ((am_gi h8 l0 2) + (1 : Int32))) (fun h9 => am_lt (0 : Int32) (fun x10 => fxX4_tally_b58 (fxX4_tally_b31 n) am_F l0 l1 l2 x10 h9))))))))
set_option maxRecDepth 100000 in
theorem sxX4_tally_b31 {xs : List Int32} : ∀ (n : Nat) (l0 : Option Nat) (l1 : Option Nat) (l2 : Int32) (h : am_H), am_Sm xs am_cu mX4_tally 1 0 0 31 [some (am_R l0), some (am_R l1), some (am_I l2), none] [] h (fxX4_tally_b31 n l0 l1 l2 h) := by
  intro n
  induction n with
  | zero => intros; exact am_none
  | succ n ih =>
    intro l0 l1 l2 h
    rw [fxX4_tally_b31]
    refine am_iload_n dX4_tally_31 rfl ?_
    refine am_bipush (v := 120) dX4_tally_32 (by decide) ?_
    refine am_icmp_ge (tgt := 98) dX4_tally_34 (by decide) (fun c12 => ?_) (fun c12 => ?_)
    · exact am_vret dX4_tally_98 rfl rfl
    refine am_aload_n dX4_tally_37 rfl ?_
    refine am_iload_n dX4_tally_38 rfl ?_
    refine am_aload_n dX4_tally_39 rfl ?_
    refine am_callV (cvj := am_ci) (mtj := mX4_holds) (dj := 0) (nj := 2) (rcj := 0) (rsj := 0) (rc' := 0) (rs' := 0) (ci := 4) (st' := fun a9 => (am_I a9 :: [])) ⟨_, rfl, rfl⟩ [am_I l2, am_R l1] [] dX4_tally_40 okX4_holds lk_RX4_26 (fun zA zH zE => txX4_holds l0 l2 l1 h zA zH zE) rfl (fun _ => rfl) (by decide) rfl (Nat.le_of_ble_eq_true rfl) (by decide) (by decide) (fun r7 h8 => ?_)
    refine am_if_eq (tgt := 92) dX4_tally_43 (by decide) (fun c11 => ?_) (fun c11 => ?_)
    · exact am_weak (sxX4_tally_b92 (fxX4_tally_b31 n) ih l0 l1 l2 h8) ⟨rfl, ⟨rfl, ⟨rfl, trivial⟩⟩⟩ (Nat.le_refl _) (Nat.le_refl _)
    refine am_aload_n dX4_tally_46 rfl ?_
    refine am_dup dX4_tally_47 ?_
    refine am_getI dX4_tally_48 fk_RX4_18 rfl ?_
    refine am_iconst (v := 1) dX4_tally_51 (by decide) ?_
    refine am_iadd dX4_tally_52 ?_
    refine am_putI dX4_tally_53 fk_RX4_18 ⟨_, rfl, Or.inl rfl⟩ rfl (fun h9 => ?_)
    refine am_iconst (v := 0) dX4_tally_56 (by decide) ?_
    refine am_istore_n (LL := fun y9 => [some (am_R l0), some (am_R l1), some (am_I l2), some (am_I y9)]) dX4_tally_57 (by decide) (fun _ => rfl) (fun x10 => ?_)
    exact am_weak (sxX4_tally_b58 (fxX4_tally_b31 n) ih am_F l0 l1 l2 x10 h9) ⟨rfl, ⟨rfl, ⟨rfl, ⟨rfl, trivial⟩⟩⟩⟩ (Nat.le_refl _) (Nat.le_refl _)
def fxX4_tally_b7 : Nat → Option Nat → Option Nat → Int32 → am_H → Option (Unit × am_H)
  | 0, _, _, _, _ => none
  | n + 1, l0, l1, l2, h => am_gd (am_ob h l0 4) (am_gd (am_ar h (am_gr h l0 1) 0) (if (Int32.ofNat (am_ln h (am_gr h l0 1))) ≤ l2 then (am_lt (0 : Int32) (fun x3 => fxX4_tally_b31 am_F l0 l1 x3 h)) else (am_gd (am_ob h l0 4) (am_gd (am_ix h (am_gr h l0 1) 0 l2) (am_lt (am_si h (am_gr h l0 1) l2.toNatClampNeg (0 : Int32)) (fun h4 => am_lt (l2 + 1) (fun x5 => fxX4_tally_b7 n l0 l1 x5 h4)))))))
set_option maxRecDepth 100000 in
theorem sxX4_tally_b7 {xs : List Int32} : ∀ (n : Nat) (l0 : Option Nat) (l1 : Option Nat) (l2 : Int32) (h : am_H), am_Sm xs am_cu mX4_tally 1 0 0 7 [some (am_R l0), some (am_R l1), some (am_I l2), none] [] h (fxX4_tally_b7 n l0 l1 l2 h) := by
  intro n
  induction n with
  | zero => intros; exact am_none
  | succ n ih =>
    intro l0 l1 l2 h
    rw [fxX4_tally_b7]
    refine am_iload_n dX4_tally_7 rfl ?_
    refine am_aload_n dX4_tally_8 rfl ?_
    refine am_getR dX4_tally_9 fk_RX4_15 rfl ?_
    refine am_alen (t := 0) dX4_tally_12 (by decide) ?_
    refine am_icmp_ge (tgt := 29) dX4_tally_13 (by decide) (fun c6 => ?_) (fun c6 => ?_)
    · refine am_iconst (v := 0) dX4_tally_29 (by decide) ?_
      refine am_istore_n (LL := fun y9 => [some (am_R l0), some (am_R l1), some (am_I y9), none]) dX4_tally_30 (by decide) (fun _ => rfl) (fun x3 => ?_)
      exact am_weak (sxX4_tally_b31 am_F l0 l1 x3 h) ⟨rfl, ⟨rfl, ⟨rfl, trivial⟩⟩⟩ (Nat.le_refl _) (Nat.le_refl _)
    refine am_aload_n dX4_tally_16 rfl ?_
    refine am_getR dX4_tally_17 fk_RX4_15 rfl ?_
    refine am_iload_n dX4_tally_20 rfl ?_
    refine am_iconst (v := 0) dX4_tally_21 (by decide) ?_
    refine am_iast dX4_tally_22 (fun h4 => ?_)
    refine am_iinc (v := 1) (LL := fun y9 => [some (am_R l0), some (am_R l1), some (am_I y9), none]) dX4_tally_23 (by decide) rfl (by decide) (fun _ => rfl) (fun x5 => ?_)
    refine am_goto (tgt := 7) dX4_tally_26 (by decide) ?_
    exact am_weak (ih l0 l1 x5 h4) ⟨rfl, ⟨rfl, ⟨rfl, trivial⟩⟩⟩ (Nat.le_refl _) (Nat.le_refl _)
def fxX4_tally (l0 : Option Nat) (l1 : Option Nat) (h : am_H) : Option (Unit × am_H) := am_gd (am_ob h l0 4) (am_lt (am_si h l0 2 (0 : Int32)) (fun h1 => am_lt (0 : Int32) (fun x2 => fxX4_tally_b7 am_F l0 l1 x2 h1)))
set_option maxRecDepth 100000 in
theorem sxX4_tally {xs : List Int32} (l0 : Option Nat) (l1 : Option Nat) (h : am_H) : am_Sm xs am_cu mX4_tally 1 0 0 0 [some (am_R l0), some (am_R l1), none, none] [] h (fxX4_tally l0 l1 h) := by
  unfold fxX4_tally
  refine am_aload_n dX4_tally_0 rfl ?_
  refine am_iconst (v := 0) dX4_tally_1 (by decide) ?_
  refine am_putI dX4_tally_2 fk_RX4_18 ⟨_, rfl, Or.inl rfl⟩ rfl (fun h1 => ?_)
  refine am_iconst (v := 0) dX4_tally_5 (by decide) ?_
  refine am_istore_n (LL := fun y9 => [some (am_R l0), some (am_R l1), some (am_I y9), none]) dX4_tally_6 (by decide) (fun _ => rfl) (fun x2 => ?_)
  exact am_weak (sxX4_tally_b7 am_F l0 l1 x2 h1) ⟨rfl, ⟨rfl, ⟨rfl, trivial⟩⟩⟩ (Nat.le_refl _) (Nat.le_refl _)
theorem txX4_tally {xs : List Int32} (l0 : Option Nat) (l1 : Option Nat) (h : am_H) (a : Unit) (h2 : am_H) (e : fxX4_tally l0 l1 h = some (a, h2)) : am_Ct xs mX4_tally 1 0 0 [am_R l0, am_R l1] h (fun v h3 => v = am_cu a ∧ h3 = h2) := am_meth okX4_tally (Nat.le_of_ble_eq_true rfl) rfl (sxX4_tally l0 l1 h) e
theorem dX4_meaningOf_0 : am_at cX4_meaningOf 0 (.iconst 0) 1 1 := by decide +kernel
theorem dX4_meaningOf_1 : am_at cX4_meaningOf 1 (.istore_n 2) 1 2 := by decide +kernel
theorem dX4_meaningOf_2 : am_at cX4_meaningOf 2 (.iload_n 2) 1 3 := by decide +kernel
theorem dX4_meaningOf_3 : am_at cX4_meaningOf 3 (.iconst 5) 1 4 := by decide +kernel
theorem dX4_meaningOf_4 : am_at cX4_meaningOf 4 (.if_icmp .ge 35) 3 7 := by decide +kernel
theorem dX4_meaningOf_7 : am_at cX4_meaningOf 7 (.aload_n 0) 1 8 := by decide +kernel
theorem dX4_meaningOf_8 : am_at cX4_meaningOf 8 (.getfield 18) 3 11 := by decide +kernel
theorem dX4_meaningOf_11 : am_at cX4_meaningOf 11 (.ifCond .le 22) 3 14 := by decide +kernel
theorem dX4_meaningOf_14 : am_at cX4_meaningOf 14 (.aload_n 0) 1 15 := by decide +kernel
theorem dX4_meaningOf_15 : am_at cX4_meaningOf 15 (.getfield 15) 3 18 := by decide +kernel
theorem dX4_meaningOf_18 : am_at cX4_meaningOf 18 (.iload_n 1) 1 19 := by decide +kernel
theorem dX4_meaningOf_19 : am_at cX4_meaningOf 19 (.iconst 5) 1 20 := by decide +kernel
theorem dX4_meaningOf_20 : am_at cX4_meaningOf 20 (.imul) 1 21 := by decide +kernel
theorem dX4_meaningOf_21 : am_at cX4_meaningOf 21 (.iload_n 2) 1 22 := by decide +kernel
theorem dX4_meaningOf_22 : am_at cX4_meaningOf 22 (.iadd) 1 23 := by decide +kernel
theorem dX4_meaningOf_23 : am_at cX4_meaningOf 23 (.iaload) 1 24 := by decide +kernel
theorem dX4_meaningOf_24 : am_at cX4_meaningOf 24 (.aload_n 0) 1 25 := by decide +kernel
theorem dX4_meaningOf_25 : am_at cX4_meaningOf 25 (.getfield 18) 3 28 := by decide +kernel
theorem dX4_meaningOf_28 : am_at cX4_meaningOf 28 (.if_icmp .ne 5) 3 31 := by decide +kernel
theorem dX4_meaningOf_31 : am_at cX4_meaningOf 31 (.iload_n 2) 1 32 := by decide +kernel
theorem dX4_meaningOf_32 : am_at cX4_meaningOf 32 (.ireturn) 1 33 := by decide +kernel
theorem dX4_meaningOf_33 : am_at cX4_meaningOf 33 (.iinc 2 1) 3 36 := by decide +kernel
theorem dX4_meaningOf_36 : am_at cX4_meaningOf 36 (.goto (-34)) 3 39 := by decide +kernel
theorem dX4_meaningOf_39 : am_at cX4_meaningOf 39 (.ldc 41) 2 41 := by decide +kernel
theorem dX4_meaningOf_41 : am_at cX4_meaningOf 41 (.ireturn) 1 42 := by decide +kernel
def fxX4_meaningOf_b33 (k2 : Option Nat → Int32 → Int32 → am_H → Option (Int32 × am_H)) (l0 : Option Nat) (l1 : Int32) (l2 : Int32) (h : am_H) : Option (Int32 × am_H) := am_lt (l2 + 1) (fun x5 => k2 l0 l1 x5 h)
set_option maxRecDepth 100000 in
theorem sxX4_meaningOf_b33 {xs : List Int32} (k2 : Option Nat → Int32 → Int32 → am_H → Option (Int32 × am_H)) (hk2 : ∀ (l0 : Option Nat) (l1 : Int32) (l2 : Int32) (h : am_H), am_Sm xs am_ci mX4_meaningOf 0 0 0 2 [some (am_R l0), some (am_I l1), some (am_I l2)] [] h (k2 l0 l1 l2 h)) (l0 : Option Nat) (l1 : Int32) (l2 : Int32) (h : am_H) : am_Sm xs am_ci mX4_meaningOf 0 0 0 33 [some (am_R l0), some (am_I l1), some (am_I l2)] [] h (fxX4_meaningOf_b33 k2 l0 l1 l2 h) := by
  unfold fxX4_meaningOf_b33
  refine am_iinc (v := 1) (LL := fun y9 => [some (am_R l0), some (am_I l1), some (am_I y9)]) dX4_meaningOf_33 (by decide) rfl (by decide) (fun _ => rfl) (fun x5 => ?_)
  refine am_goto (tgt := 2) dX4_meaningOf_36 (by decide) ?_
  exact am_weak (hk2 l0 l1 x5 h) ⟨rfl, ⟨rfl, ⟨rfl, trivial⟩⟩⟩ (Nat.le_refl _) (Nat.le_refl _)
def fxX4_meaningOf_b2 : Nat → Option Nat → Int32 → Int32 → am_H → Option (Int32 × am_H)
  | 0, _, _, _, _ => none
  | n + 1, l0, l1, l2, h => if (5 : Int32) ≤ l2 then (some ((-1000000005 : Int32), h)) else (am_gd (am_ob h l0 4) (if (am_gi h l0 2) ≤ 0 then (fxX4_meaningOf_b33 (fxX4_meaningOf_b2 n) l0 l1 l2 h) else (am_gd (am_ob h l0 4) (am_gd (am_ix h (am_gr h l0 1) 0 ((l1 * (5 : Int32)) + l2)) (am_gd (am_ob h l0 4) (if (am_gi h (am_gr h l0 1) ((l1 * (5 : Int32)) + l2).toNatClampNeg) = (am_gi h l0 2) then (some (l2, h)) else (fxX4_meaningOf_b33 (fxX4_meaningOf_b2 n) l0 l1 l2 h)))))))
set_option maxRecDepth 100000 in
theorem sxX4_meaningOf_b2 {xs : List Int32} : ∀ (n : Nat) (l0 : Option Nat) (l1 : Int32) (l2 : Int32) (h : am_H), am_Sm xs am_ci mX4_meaningOf 0 0 0 2 [some (am_R l0), some (am_I l1), some (am_I l2)] [] h (fxX4_meaningOf_b2 n l0 l1 l2 h) := by
  intro n
  induction n with
  | zero => intros; exact am_none
  | succ n ih =>
    intro l0 l1 l2 h
    rw [fxX4_meaningOf_b2]
    refine am_iload_n dX4_meaningOf_2 rfl ?_
    refine am_iconst (v := 5) dX4_meaningOf_3 (by decide) ?_
    refine am_icmp_ge (tgt := 39) dX4_meaningOf_4 (by decide) (fun c4 => ?_) (fun c4 => ?_)
    · refine am_ldc (v := (-1000000005)) dX4_meaningOf_39 wd612 ?_
      exact am_iret dX4_meaningOf_41 rfl rfl
    refine am_aload_n dX4_meaningOf_7 rfl ?_
    refine am_getI dX4_meaningOf_8 fk_RX4_18 rfl ?_
    refine am_if_le (tgt := 33) dX4_meaningOf_11 (by decide) (fun c3 => ?_) (fun c3 => ?_)
    · exact am_weak (sxX4_meaningOf_b33 (fxX4_meaningOf_b2 n) ih l0 l1 l2 h) ⟨rfl, ⟨rfl, ⟨rfl, trivial⟩⟩⟩ (Nat.le_refl _) (Nat.le_refl _)
    refine am_aload_n dX4_meaningOf_14 rfl ?_
    refine am_getR dX4_meaningOf_15 fk_RX4_15 rfl ?_
    refine am_iload_n dX4_meaningOf_18 rfl ?_
    refine am_iconst (v := 5) dX4_meaningOf_19 (by decide) ?_
    refine am_imul dX4_meaningOf_20 ?_
    refine am_iload_n dX4_meaningOf_21 rfl ?_
    refine am_iadd dX4_meaningOf_22 ?_
    refine am_iald dX4_meaningOf_23 ?_
    refine am_aload_n dX4_meaningOf_24 rfl ?_
    refine am_getI dX4_meaningOf_25 fk_RX4_18 rfl ?_
    refine am_icmp_ne (tgt := 33) dX4_meaningOf_28 (by decide) (fun c2 => ?_) (fun c2 => ?_)
    · exact am_weak (sxX4_meaningOf_b33 (fxX4_meaningOf_b2 n) ih l0 l1 l2 h) ⟨rfl, ⟨rfl, ⟨rfl, trivial⟩⟩⟩ (Nat.le_refl _) (Nat.le_refl _)
    refine am_iload_n dX4_meaningOf_31 rfl ?_
    exact am_iret dX4_meaningOf_32 rfl rfl
def fxX4_meaningOf (l0 : Option Nat) (l1 : Int32) (h : am_H) : Option (Int32 × am_H) := am_lt (0 : Int32) (fun x1 => fxX4_meaningOf_b2 am_F l0 l1 x1 h)
set_option maxRecDepth 100000 in
theorem sxX4_meaningOf {xs : List Int32} (l0 : Option Nat) (l1 : Int32) (h : am_H) : am_Sm xs am_ci mX4_meaningOf 0 0 0 0 [some (am_R l0), some (am_I l1), none] [] h (fxX4_meaningOf l0 l1 h) := by
  unfold fxX4_meaningOf
  refine am_iconst (v := 0) dX4_meaningOf_0 (by decide) ?_
  refine am_istore_n (LL := fun y9 => [some (am_R l0), some (am_I l1), some (am_I y9)]) dX4_meaningOf_1 (by decide) (fun _ => rfl) (fun x1 => ?_)
  exact am_weak (sxX4_meaningOf_b2 am_F l0 l1 x1 h) ⟨rfl, ⟨rfl, ⟨rfl, trivial⟩⟩⟩ (Nat.le_refl _) (Nat.le_refl _)
theorem txX4_meaningOf {xs : List Int32} (l0 : Option Nat) (l1 : Int32) (h : am_H) (a : Int32) (h2 : am_H) (e : fxX4_meaningOf l0 l1 h = some (a, h2)) : am_Ct xs mX4_meaningOf 0 0 0 [am_R l0, am_I l1] h (fun v h3 => v = am_ci a ∧ h3 = h2) := am_meth okX4_meaningOf (Nat.le_of_ble_eq_true rfl) rfl (sxX4_meaningOf l0 l1 h) e
theorem dX4_worstOf_0 : am_at cX4_worstOf 0 (.iconst 0) 1 1 := by decide +kernel
theorem dX4_worstOf_1 : am_at cX4_worstOf 1 (.istore_n 2) 1 2 := by decide +kernel
theorem dX4_worstOf_2 : am_at cX4_worstOf 2 (.iconst 0) 1 3 := by decide +kernel
theorem dX4_worstOf_3 : am_at cX4_worstOf 3 (.istore_n 3) 1 4 := by decide +kernel
theorem dX4_worstOf_4 : am_at cX4_worstOf 4 (.iload_n 3) 1 5 := by decide +kernel
theorem dX4_worstOf_5 : am_at cX4_worstOf 5 (.iconst 5) 1 6 := by decide +kernel
theorem dX4_worstOf_6 : am_at cX4_worstOf 6 (.if_icmp .ge 24) 3 9 := by decide +kernel
theorem dX4_worstOf_9 : am_at cX4_worstOf 9 (.iload_n 2) 1 10 := by decide +kernel
theorem dX4_worstOf_10 : am_at cX4_worstOf 10 (.aload_n 0) 1 11 := by decide +kernel
theorem dX4_worstOf_11 : am_at cX4_worstOf 11 (.getfield 15) 3 14 := by decide +kernel
theorem dX4_worstOf_14 : am_at cX4_worstOf 14 (.iload_n 1) 1 15 := by decide +kernel
theorem dX4_worstOf_15 : am_at cX4_worstOf 15 (.iconst 5) 1 16 := by decide +kernel
theorem dX4_worstOf_16 : am_at cX4_worstOf 16 (.imul) 1 17 := by decide +kernel
theorem dX4_worstOf_17 : am_at cX4_worstOf 17 (.iload_n 3) 1 18 := by decide +kernel
theorem dX4_worstOf_18 : am_at cX4_worstOf 18 (.iadd) 1 19 := by decide +kernel
theorem dX4_worstOf_19 : am_at cX4_worstOf 19 (.iaload) 1 20 := by decide +kernel
theorem dX4_worstOf_20 : am_at cX4_worstOf 20 (.invokestatic 42) 3 23 := by decide +kernel
theorem dX4_worstOf_23 : am_at cX4_worstOf 23 (.istore_n 2) 1 24 := by decide +kernel
theorem dX4_worstOf_24 : am_at cX4_worstOf 24 (.iinc 3 1) 3 27 := by decide +kernel
theorem dX4_worstOf_27 : am_at cX4_worstOf 27 (.goto (-23)) 3 30 := by decide +kernel
theorem dX4_worstOf_30 : am_at cX4_worstOf 30 (.iload_n 2) 1 31 := by decide +kernel
theorem dX4_worstOf_31 : am_at cX4_worstOf 31 (.ireturn) 1 32 := by decide +kernel
def fxX4_worstOf_b4 : Nat → Option Nat → Int32 → Int32 → Int32 → am_H → Option (Int32 × am_H)
  | 0, _, _, _, _, _ => none
  | n + 1, l0, l1, l2, l3, h => if (5 : Int32) ≤ l3 then (some (l2, h)) else (am_gd (am_ob h l0 4) (am_gd (am_ix h (am_gr h l0 1) 0 ((l1 * (5 : Int32)) + l3)) (am_lt (am_mmax l2 (am_gi h (am_gr h l0 1) ((l1 * (5 : Int32)) + l3).toNatClampNeg)) (fun x3 => am_lt (l3 + 1) (fun x4 => fxX4_worstOf_b4 n l0 l1 x3 x4 h)))))
set_option maxRecDepth 100000 in
theorem sxX4_worstOf_b4 {xs : List Int32} : ∀ (n : Nat) (l0 : Option Nat) (l1 : Int32) (l2 : Int32) (l3 : Int32) (h : am_H), am_Sm xs am_ci mX4_worstOf 1 0 0 4 [some (am_R l0), some (am_I l1), some (am_I l2), some (am_I l3)] [] h (fxX4_worstOf_b4 n l0 l1 l2 l3 h) := by
  intro n
  induction n with
  | zero => intros; exact am_none
  | succ n ih =>
    intro l0 l1 l2 l3 h
    rw [fxX4_worstOf_b4]
    refine am_iload_n dX4_worstOf_4 rfl ?_
    refine am_iconst (v := 5) dX4_worstOf_5 (by decide) ?_
    refine am_icmp_ge (tgt := 30) dX4_worstOf_6 (by decide) (fun c5 => ?_) (fun c5 => ?_)
    · refine am_iload_n dX4_worstOf_30 rfl ?_
      exact am_iret dX4_worstOf_31 rfl rfl
    refine am_iload_n dX4_worstOf_9 rfl ?_
    refine am_aload_n dX4_worstOf_10 rfl ?_
    refine am_getR dX4_worstOf_11 fk_RX4_15 rfl ?_
    refine am_iload_n dX4_worstOf_14 rfl ?_
    refine am_iconst (v := 5) dX4_worstOf_15 (by decide) ?_
    refine am_imul dX4_worstOf_16 ?_
    refine am_iload_n dX4_worstOf_17 rfl ?_
    refine am_iadd dX4_worstOf_18 ?_
    refine am_iald dX4_worstOf_19 ?_
    refine am_mmax9 dX4_worstOf_20 wd625 wd404 wd12 wd405 (by decide) (Nat.le_of_ble_eq_true rfl) ?_
    refine am_istore_n (LL := fun y9 => [some (am_R l0), some (am_I l1), some (am_I y9), some (am_I l3)]) dX4_worstOf_23 (by decide) (fun _ => rfl) (fun x3 => ?_)
    refine am_iinc (v := 1) (LL := fun y9 => [some (am_R l0), some (am_I l1), some (am_I x3), some (am_I y9)]) dX4_worstOf_24 (by decide) rfl (by decide) (fun _ => rfl) (fun x4 => ?_)
    refine am_goto (tgt := 4) dX4_worstOf_27 (by decide) ?_
    exact am_weak (ih l0 l1 x3 x4 h) ⟨rfl, ⟨rfl, ⟨rfl, ⟨rfl, trivial⟩⟩⟩⟩ (Nat.le_refl _) (Nat.le_refl _)
def fxX4_worstOf (l0 : Option Nat) (l1 : Int32) (h : am_H) : Option (Int32 × am_H) := am_lt (0 : Int32) (fun x1 => am_lt (0 : Int32) (fun x2 => fxX4_worstOf_b4 am_F l0 l1 x1 x2 h))
set_option maxRecDepth 100000 in
theorem sxX4_worstOf {xs : List Int32} (l0 : Option Nat) (l1 : Int32) (h : am_H) : am_Sm xs am_ci mX4_worstOf 1 0 0 0 [some (am_R l0), some (am_I l1), none, none] [] h (fxX4_worstOf l0 l1 h) := by
  unfold fxX4_worstOf
  refine am_iconst (v := 0) dX4_worstOf_0 (by decide) ?_
  refine am_istore_n (LL := fun y9 => [some (am_R l0), some (am_I l1), some (am_I y9), none]) dX4_worstOf_1 (by decide) (fun _ => rfl) (fun x1 => ?_)
  refine am_iconst (v := 0) dX4_worstOf_2 (by decide) ?_
  refine am_istore_n (LL := fun y9 => [some (am_R l0), some (am_I l1), some (am_I x1), some (am_I y9)]) dX4_worstOf_3 (by decide) (fun _ => rfl) (fun x2 => ?_)
  exact am_weak (sxX4_worstOf_b4 am_F l0 l1 x1 x2 h) ⟨rfl, ⟨rfl, ⟨rfl, ⟨rfl, trivial⟩⟩⟩⟩ (Nat.le_refl _) (Nat.le_refl _)
theorem txX4_worstOf {xs : List Int32} (l0 : Option Nat) (l1 : Int32) (h : am_H) (a : Int32) (h2 : am_H) (e : fxX4_worstOf l0 l1 h = some (a, h2)) : am_Ct xs mX4_worstOf 1 0 0 [am_R l0, am_I l1] h (fun v h3 => v = am_ci a ∧ h3 = h2) := am_meth okX4_worstOf (Nat.le_of_ble_eq_true rfl) rfl (sxX4_worstOf l0 l1 h) e
theorem dX4_betterTold_0 : am_at cX4_betterTold 0 (.iconst 0) 1 1 := by decide +kernel
theorem dX4_betterTold_1 : am_at cX4_betterTold 1 (.istore_n 1) 1 2 := by decide +kernel
theorem dX4_betterTold_2 : am_at cX4_betterTold 2 (.iconst 1) 1 3 := by decide +kernel
theorem dX4_betterTold_3 : am_at cX4_betterTold 3 (.istore_n 2) 1 4 := by decide +kernel
theorem dX4_betterTold_4 : am_at cX4_betterTold 4 (.iload_n 2) 1 5 := by decide +kernel
theorem dX4_betterTold_5 : am_at cX4_betterTold 5 (.iconst 5) 1 6 := by decide +kernel
theorem dX4_betterTold_6 : am_at cX4_betterTold 6 (.if_icmp .ge 24) 3 9 := by decide +kernel
theorem dX4_betterTold_9 : am_at cX4_betterTold 9 (.aload_n 0) 1 10 := by decide +kernel
theorem dX4_betterTold_10 : am_at cX4_betterTold 10 (.iload_n 2) 1 11 := by decide +kernel
theorem dX4_betterTold_11 : am_at cX4_betterTold 11 (.invokevirtual 47) 3 14 := by decide +kernel
theorem dX4_betterTold_14 : am_at cX4_betterTold 14 (.aload_n 0) 1 15 := by decide +kernel
theorem dX4_betterTold_15 : am_at cX4_betterTold 15 (.iload_n 1) 1 16 := by decide +kernel
theorem dX4_betterTold_16 : am_at cX4_betterTold 16 (.invokevirtual 47) 3 19 := by decide +kernel
theorem dX4_betterTold_19 : am_at cX4_betterTold 19 (.if_icmp .ge 5) 3 22 := by decide +kernel
theorem dX4_betterTold_22 : am_at cX4_betterTold 22 (.iload_n 2) 1 23 := by decide +kernel
theorem dX4_betterTold_23 : am_at cX4_betterTold 23 (.istore_n 1) 1 24 := by decide +kernel
theorem dX4_betterTold_24 : am_at cX4_betterTold 24 (.iinc 2 1) 3 27 := by decide +kernel
theorem dX4_betterTold_27 : am_at cX4_betterTold 27 (.goto (-23)) 3 30 := by decide +kernel
theorem dX4_betterTold_30 : am_at cX4_betterTold 30 (.iload_n 1) 1 31 := by decide +kernel
theorem dX4_betterTold_31 : am_at cX4_betterTold 31 (.ireturn) 1 32 := by decide +kernel
def fxX4_betterTold_b24 (k4 : Option Nat → Int32 → Int32 → am_H → Option (Int32 × am_H)) (l0 : Option Nat) (l1 : Int32) (l2 : Int32) (h : am_H) : Option (Int32 × am_H) := am_lt (l2 + 1) (fun x10 => k4 l0 l1 x10 h)
set_option maxRecDepth 100000 in
theorem sxX4_betterTold_b24 {xs : List Int32} (k4 : Option Nat → Int32 → Int32 → am_H → Option (Int32 × am_H)) (hk4 : ∀ (l0 : Option Nat) (l1 : Int32) (l2 : Int32) (h : am_H), am_Sm xs am_ci mX4_betterTold 2 0 0 4 [some (am_R l0), some (am_I l1), some (am_I l2)] [] h (k4 l0 l1 l2 h)) (l0 : Option Nat) (l1 : Int32) (l2 : Int32) (h : am_H) : am_Sm xs am_ci mX4_betterTold 2 0 0 24 [some (am_R l0), some (am_I l1), some (am_I l2)] [] h (fxX4_betterTold_b24 k4 l0 l1 l2 h) := by
  unfold fxX4_betterTold_b24
  refine am_iinc (v := 1) (LL := fun y9 => [some (am_R l0), some (am_I l1), some (am_I y9)]) dX4_betterTold_24 (by decide) rfl (by decide) (fun _ => rfl) (fun x10 => ?_)
  refine am_goto (tgt := 4) dX4_betterTold_27 (by decide) ?_
  exact am_weak (hk4 l0 l1 x10 h) ⟨rfl, ⟨rfl, ⟨rfl, trivial⟩⟩⟩ (Nat.le_refl _) (Nat.le_refl _)
def fxX4_betterTold_b4 : Nat → Option Nat → Int32 → Int32 → am_H → Option (Int32 × am_H)
  | 0, _, _, _, _ => none
  | n + 1, l0, l1, l2, h => if (5 : Int32) ≤ l2 then (some (l1, h)) else (am_gd (am_ob h l0 4) (am_bd (fxX4_worstOf l0 l2 h) (fun r3 h4 => am_gd (am_ob h4 l0 4) (am_bd (fxX4_worstOf l0 l1 h4) (fun r5 h6 => if r5 ≤ r3 then (fxX4_betterTold_b24 (fxX4_betterTold_b4 n) l0 l1 l2 h6) else (am_lt l2 (fun x7 => fxX4_betterTold_b24 (fxX4_betterTold_b4 n) l0 x7 l2 h6)))))))
set_option maxRecDepth 100000 in
theorem sxX4_betterTold_b4 {xs : List Int32} : ∀ (n : Nat) (l0 : Option Nat) (l1 : Int32) (l2 : Int32) (h : am_H), am_Sm xs am_ci mX4_betterTold 2 0 0 4 [some (am_R l0), some (am_I l1), some (am_I l2)] [] h (fxX4_betterTold_b4 n l0 l1 l2 h) := by
  intro n
  induction n with
  | zero => intros; exact am_none
  | succ n ih =>
    intro l0 l1 l2 h
    rw [fxX4_betterTold_b4]
    refine am_iload_n dX4_betterTold_4 rfl ?_
    refine am_iconst (v := 5) dX4_betterTold_5 (by decide) ?_
    refine am_icmp_ge (tgt := 30) dX4_betterTold_6 (by decide) (fun c9 => ?_) (fun c9 => ?_)
    · refine am_iload_n dX4_betterTold_30 rfl ?_
      exact am_iret dX4_betterTold_31 rfl rfl
    refine am_aload_n dX4_betterTold_9 rfl ?_
    refine am_iload_n dX4_betterTold_10 rfl ?_
    refine am_callV (cvj := am_ci) (mtj := mX4_worstOf) (dj := 1) (nj := 1) (rcj := 0) (rsj := 0) (rc' := 0) (rs' := 0) (ci := 4) (st' := fun a9 => (am_I a9 :: [])) ⟨_, rfl, rfl⟩ [am_I l2] [] dX4_betterTold_11 okX4_worstOf lk_RX4_47 (fun zA zH zE => txX4_worstOf l0 l2 h zA zH zE) rfl (fun _ => rfl) (by decide) rfl (Nat.le_of_ble_eq_true rfl) (by decide) (by decide) (fun r3 h4 => ?_)
    refine am_aload_n dX4_betterTold_14 rfl ?_
    refine am_iload_n dX4_betterTold_15 rfl ?_
    refine am_callV (cvj := am_ci) (mtj := mX4_worstOf) (dj := 1) (nj := 1) (rcj := 0) (rsj := 0) (rc' := 0) (rs' := 0) (ci := 4) (st' := fun a9 => (am_I a9 :: [am_I r3])) ⟨_, rfl, rfl⟩ [am_I l1] [am_I r3] dX4_betterTold_16 okX4_worstOf lk_RX4_47 (fun zA zH zE => txX4_worstOf l0 l1 h4 zA zH zE) rfl (fun _ => rfl) (by decide) rfl (Nat.le_of_ble_eq_true rfl) (by decide) (by decide) (fun r5 h6 => ?_)
    refine am_icmp_ge (tgt := 24) dX4_betterTold_19 (by decide) (fun c8 => ?_) (fun c8 => ?_)
    · exact am_weak (sxX4_betterTold_b24 (fxX4_betterTold_b4 n) ih l0 l1 l2 h6) ⟨rfl, ⟨rfl, ⟨rfl, trivial⟩⟩⟩ (Nat.le_refl _) (Nat.le_refl _)
    refine am_iload_n dX4_betterTold_22 rfl ?_
    refine am_istore_n (LL := fun y9 => [some (am_R l0), some (am_I y9), some (am_I l2)]) dX4_betterTold_23 (by decide) (fun _ => rfl) (fun x7 => ?_)
    exact am_weak (sxX4_betterTold_b24 (fxX4_betterTold_b4 n) ih l0 x7 l2 h6) ⟨rfl, ⟨rfl, ⟨rfl, trivial⟩⟩⟩ (Nat.le_refl _) (Nat.le_refl _)
def fxX4_betterTold (l0 : Option Nat) (h : am_H) : Option (Int32 × am_H) := am_lt (0 : Int32) (fun x1 => am_lt (1 : Int32) (fun x2 => fxX4_betterTold_b4 am_F l0 x1 x2 h))
set_option maxRecDepth 100000 in
theorem sxX4_betterTold {xs : List Int32} (l0 : Option Nat) (h : am_H) : am_Sm xs am_ci mX4_betterTold 2 0 0 0 [some (am_R l0), none, none] [] h (fxX4_betterTold l0 h) := by
  unfold fxX4_betterTold
  refine am_iconst (v := 0) dX4_betterTold_0 (by decide) ?_
  refine am_istore_n (LL := fun y9 => [some (am_R l0), some (am_I y9), none]) dX4_betterTold_1 (by decide) (fun _ => rfl) (fun x1 => ?_)
  refine am_iconst (v := 1) dX4_betterTold_2 (by decide) ?_
  refine am_istore_n (LL := fun y9 => [some (am_R l0), some (am_I x1), some (am_I y9)]) dX4_betterTold_3 (by decide) (fun _ => rfl) (fun x2 => ?_)
  exact am_weak (sxX4_betterTold_b4 am_F l0 x1 x2 h) ⟨rfl, ⟨rfl, ⟨rfl, trivial⟩⟩⟩ (Nat.le_refl _) (Nat.le_refl _)
theorem txX4_betterTold {xs : List Int32} (l0 : Option Nat) (h : am_H) (a : Int32) (h2 : am_H) (e : fxX4_betterTold l0 h = some (a, h2)) : am_Ct xs mX4_betterTold 2 0 0 [am_R l0] h (fun v h3 => v = am_ci a ∧ h3 = h2) := am_meth okX4_betterTold (Nat.le_of_ble_eq_true rfl) rfl (sxX4_betterTold l0 h) e
theorem dX5_become_0 : am_at cX5_become 0 (.aload_n 0) 1 1 := by decide +kernel
theorem dX5_become_1 : am_at cX5_become 1 (.iload_n 1) 1 2 := by decide +kernel
theorem dX5_become_2 : am_at cX5_become 2 (.putfield 9) 3 5 := by decide +kernel
theorem dX5_become_5 : am_at cX5_become 5 (.aload_n 0) 1 6 := by decide +kernel
theorem dX5_become_6 : am_at cX5_become 6 (.iload_n 2) 1 7 := by decide +kernel
theorem dX5_become_7 : am_at cX5_become 7 (.putfield 15) 3 10 := by decide +kernel
theorem dX5_become_10 : am_at cX5_become 10 (.iconst 0) 1 11 := by decide +kernel
theorem dX5_become_11 : am_at cX5_become 11 (.istore_n 3) 1 12 := by decide +kernel
theorem dX5_become_12 : am_at cX5_become 12 (.iload_n 3) 1 13 := by decide +kernel
theorem dX5_become_13 : am_at cX5_become 13 (.bipush 24) 2 15 := by decide +kernel
theorem dX5_become_15 : am_at cX5_become 15 (.if_icmp .ge 16) 3 18 := by decide +kernel
theorem dX5_become_18 : am_at cX5_become 18 (.aload_n 0) 1 19 := by decide +kernel
theorem dX5_become_19 : am_at cX5_become 19 (.getfield 18) 3 22 := by decide +kernel
theorem dX5_become_22 : am_at cX5_become 22 (.iload_n 3) 1 23 := by decide +kernel
theorem dX5_become_23 : am_at cX5_become 23 (.iconst 0) 1 24 := by decide +kernel
theorem dX5_become_24 : am_at cX5_become 24 (.iastore) 1 25 := by decide +kernel
theorem dX5_become_25 : am_at cX5_become 25 (.iinc 3 1) 3 28 := by decide +kernel
theorem dX5_become_28 : am_at cX5_become 28 (.goto (-16)) 3 31 := by decide +kernel
theorem dX5_become_31 : am_at cX5_become 31 (.return_) 1 32 := by decide +kernel
def fxX5_become_b12 : Nat → Option Nat → Int32 → am_H → Option (Unit × am_H)
  | 0, _, _, _ => none
  | n + 1, l0, l3, h => if (24 : Int32) ≤ l3 then (some ((), h)) else (am_gd (am_ob h l0 5) (am_gd (am_ix h (am_gr h l0 2) 0 l3) (am_lt (am_si h (am_gr h l0 2) l3.toNatClampNeg (0 : Int32)) (fun h4 => am_lt (l3 + 1) (fun x5 => fxX5_become_b12 n l0 x5 h4)))))
set_option maxRecDepth 100000 in
theorem sxX5_become_b12 {xs : List Int32} : ∀ (n : Nat) (l0 : Option Nat) (l3 : Int32) (h : am_H), am_Sm xs am_cu mX5_become 0 0 0 12 [some (am_R l0), none, none, some (am_I l3)] [] h (fxX5_become_b12 n l0 l3 h) := by
  intro n
  induction n with
  | zero => intros; exact am_none
  | succ n ih =>
    intro l0 l3 h
    rw [fxX5_become_b12]
    refine am_iload_n dX5_become_12 rfl ?_
    refine am_bipush (v := 24) dX5_become_13 (by decide) ?_
    refine am_icmp_ge (tgt := 31) dX5_become_15 (by decide) (fun c6 => ?_) (fun c6 => ?_)
    · exact am_vret dX5_become_31 rfl rfl
    refine am_aload_n dX5_become_18 rfl ?_
    refine am_getR dX5_become_19 fk_RX5_18 rfl ?_
    refine am_iload_n dX5_become_22 rfl ?_
    refine am_iconst (v := 0) dX5_become_23 (by decide) ?_
    refine am_iast dX5_become_24 (fun h4 => ?_)
    refine am_iinc (v := 1) (LL := fun y9 => [some (am_R l0), none, none, some (am_I y9)]) dX5_become_25 (by decide) rfl (by decide) (fun _ => rfl) (fun x5 => ?_)
    refine am_goto (tgt := 12) dX5_become_28 (by decide) ?_
    exact am_weak (ih l0 x5 h4) ⟨rfl, ⟨rfl, trivial⟩⟩ (Nat.le_refl _) (Nat.le_refl _)
def fxX5_become (l0 : Option Nat) (l1 : Int32) (l2 : Int32) (h : am_H) : Option (Unit × am_H) := am_gd (am_ob h l0 5) (am_lt (am_si h l0 0 l1) (fun h1 => am_gd (am_ob h1 l0 5) (am_lt (am_si h1 l0 1 l2) (fun h2 => am_lt (0 : Int32) (fun x3 => fxX5_become_b12 am_F l0 x3 h2)))))
set_option maxRecDepth 100000 in
theorem sxX5_become {xs : List Int32} (l0 : Option Nat) (l1 : Int32) (l2 : Int32) (h : am_H) : am_Sm xs am_cu mX5_become 0 0 0 0 [some (am_R l0), some (am_I l1), some (am_I l2), none] [] h (fxX5_become l0 l1 l2 h) := by
  unfold fxX5_become
  refine am_aload_n dX5_become_0 rfl ?_
  refine am_iload_n dX5_become_1 rfl ?_
  refine am_putI dX5_become_2 fk_RX5_9 ⟨_, rfl, Or.inl rfl⟩ rfl (fun h1 => ?_)
  refine am_aload_n dX5_become_5 rfl ?_
  refine am_iload_n dX5_become_6 rfl ?_
  refine am_putI dX5_become_7 fk_RX5_15 ⟨_, rfl, Or.inl rfl⟩ rfl (fun h2 => ?_)
  refine am_iconst (v := 0) dX5_become_10 (by decide) ?_
  refine am_istore_n (LL := fun y9 => [some (am_R l0), some (am_I l1), some (am_I l2), some (am_I y9)]) dX5_become_11 (by decide) (fun _ => rfl) (fun x3 => ?_)
  exact am_weak (sxX5_become_b12 am_F l0 x3 h2) ⟨rfl, ⟨rfl, trivial⟩⟩ (Nat.le_refl _) (Nat.le_refl _)
theorem txX5_become {xs : List Int32} (l0 : Option Nat) (l1 : Int32) (l2 : Int32) (h : am_H) (a : Unit) (h2 : am_H) (e : fxX5_become l0 l1 l2 h = some (a, h2)) : am_Ct xs mX5_become 0 0 0 [am_R l0, am_I l1, am_I l2] h (fun v h3 => v = am_cu a ∧ h3 = h2) := am_meth okX5_become (Nat.le_of_ble_eq_true rfl) rfl (sxX5_become l0 l1 l2 h) e
theorem dX5_takeAfter_0 : am_at cX5_takeAfter 0 (.aload_n 0) 1 1 := by decide +kernel
theorem dX5_takeAfter_1 : am_at cX5_takeAfter 1 (.aload_n 1) 1 2 := by decide +kernel
theorem dX5_takeAfter_2 : am_at cX5_takeAfter 2 (.getfield 9) 3 5 := by decide +kernel
theorem dX5_takeAfter_5 : am_at cX5_takeAfter 5 (.putfield 9) 3 8 := by decide +kernel
theorem dX5_takeAfter_8 : am_at cX5_takeAfter 8 (.aload_n 0) 1 9 := by decide +kernel
theorem dX5_takeAfter_9 : am_at cX5_takeAfter 9 (.aload_n 1) 1 10 := by decide +kernel
theorem dX5_takeAfter_10 : am_at cX5_takeAfter 10 (.getfield 15) 3 13 := by decide +kernel
theorem dX5_takeAfter_13 : am_at cX5_takeAfter 13 (.putfield 15) 3 16 := by decide +kernel
theorem dX5_takeAfter_16 : am_at cX5_takeAfter 16 (.aload_n 1) 1 17 := by decide +kernel
theorem dX5_takeAfter_17 : am_at cX5_takeAfter 17 (.getfield 18) 3 20 := by decide +kernel
theorem dX5_takeAfter_20 : am_at cX5_takeAfter 20 (.iconst 0) 1 21 := by decide +kernel
theorem dX5_takeAfter_21 : am_at cX5_takeAfter 21 (.aload_n 0) 1 22 := by decide +kernel
theorem dX5_takeAfter_22 : am_at cX5_takeAfter 22 (.getfield 18) 3 25 := by decide +kernel
theorem dX5_takeAfter_25 : am_at cX5_takeAfter 25 (.iconst 0) 1 26 := by decide +kernel
theorem dX5_takeAfter_26 : am_at cX5_takeAfter 26 (.bipush 24) 2 28 := by decide +kernel
theorem dX5_takeAfter_28 : am_at cX5_takeAfter 28 (.invokestatic 22) 3 31 := by decide +kernel
theorem dX5_takeAfter_31 : am_at cX5_takeAfter 31 (.return_) 1 32 := by decide +kernel
def fxX5_takeAfter (l0 : Option Nat) (l1 : Option Nat) (h : am_H) : Option (Unit × am_H) := am_gd (am_ob h l1 5) (am_gd (am_ob h l0 5) (am_lt (am_si h l0 0 (am_gi h l1 0)) (fun h1 => am_gd (am_ob h1 l1 5) (am_gd (am_ob h1 l0 5) (am_lt (am_si h1 l0 1 (am_gi h1 l1 1)) (fun h2 => am_gd (am_ob h2 l1 5) (am_gd (am_ob h2 l0 5) (am_gd (am_cpok h2 (am_gr h2 l1 2) (am_gr h2 l0 2) (0 : Int32) (0 : Int32) (24 : Int32)) (am_lt (am_cp h2 (am_gr h2 l1 2) (am_gr h2 l0 2) (0 : Int32).toNatClampNeg (0 : Int32).toNatClampNeg (24 : Int32).toNatClampNeg) (fun h3 => some ((), h3)))))))))))
set_option maxRecDepth 100000 in
theorem sxX5_takeAfter {xs : List Int32} (l0 : Option Nat) (l1 : Option Nat) (h : am_H) : am_Sm xs am_cu mX5_takeAfter 1 0 0 0 [some (am_R l0), some (am_R l1)] [] h (fxX5_takeAfter l0 l1 h) := by
  unfold fxX5_takeAfter
  refine am_aload_n dX5_takeAfter_0 rfl ?_
  refine am_aload_n dX5_takeAfter_1 rfl ?_
  refine am_getI dX5_takeAfter_2 fk_RX5_9 rfl ?_
  refine am_putI dX5_takeAfter_5 fk_RX5_9 ⟨_, rfl, Or.inl rfl⟩ rfl (fun h1 => ?_)
  refine am_aload_n dX5_takeAfter_8 rfl ?_
  refine am_aload_n dX5_takeAfter_9 rfl ?_
  refine am_getI dX5_takeAfter_10 fk_RX5_15 rfl ?_
  refine am_putI dX5_takeAfter_13 fk_RX5_15 ⟨_, rfl, Or.inl rfl⟩ rfl (fun h2 => ?_)
  refine am_aload_n dX5_takeAfter_16 rfl ?_
  refine am_getR dX5_takeAfter_17 fk_RX5_18 rfl ?_
  refine am_iconst (v := 0) dX5_takeAfter_20 (by decide) ?_
  refine am_aload_n dX5_takeAfter_21 rfl ?_
  refine am_getR dX5_takeAfter_22 fk_RX5_18 rfl ?_
  refine am_iconst (v := 0) dX5_takeAfter_25 (by decide) ?_
  refine am_bipush (v := 24) dX5_takeAfter_26 (by decide) ?_
  refine am_acopy dX5_takeAfter_28 wd892 wd875 wd874 wd18 (by decide) (Nat.le_of_ble_eq_true rfl) (fun h3 => ?_)
  exact am_vret dX5_takeAfter_31 rfl rfl
theorem txX5_takeAfter {xs : List Int32} (l0 : Option Nat) (l1 : Option Nat) (h : am_H) (a : Unit) (h2 : am_H) (e : fxX5_takeAfter l0 l1 h = some (a, h2)) : am_Ct xs mX5_takeAfter 1 0 0 [am_R l0, am_R l1] h (fun v h3 => v = am_cu a ∧ h3 = h2) := am_meth okX5_takeAfter (Nat.le_of_ble_eq_true rfl) rfl (sxX5_takeAfter l0 l1 h) e
theorem dX5_isMissing_0 : am_at cX5_isMissing 0 (.aload_n 0) 1 1 := by decide +kernel
theorem dX5_isMissing_1 : am_at cX5_isMissing 1 (.getfield 9) 3 4 := by decide +kernel
theorem dX5_isMissing_4 : am_at cX5_isMissing 4 (.iconst (-1)) 1 5 := by decide +kernel
theorem dX5_isMissing_5 : am_at cX5_isMissing 5 (.if_icmp .ne 7) 3 8 := by decide +kernel
theorem dX5_isMissing_8 : am_at cX5_isMissing 8 (.iconst 1) 1 9 := by decide +kernel
theorem dX5_isMissing_9 : am_at cX5_isMissing 9 (.goto 4) 3 12 := by decide +kernel
theorem dX5_isMissing_12 : am_at cX5_isMissing 12 (.iconst 0) 1 13 := by decide +kernel
theorem dX5_isMissing_13 : am_at cX5_isMissing 13 (.ireturn) 1 14 := by decide +kernel
def fxX5_isMissing (l0 : Option Nat) (h : am_H) : Option (Int32 × am_H) := am_gd (am_ob h l0 5) (if (am_gi h l0 0) = (-1 : Int32) then (am_gd (am_bz (1 : Int32)) (some ((1 : Int32), h))) else (am_gd (am_bz (0 : Int32)) (some ((0 : Int32), h))))
set_option maxRecDepth 100000 in
theorem sxX5_isMissing {xs : List Int32} (l0 : Option Nat) (h : am_H) : am_Sm xs am_ci mX5_isMissing 0 0 0 0 [some (am_R l0)] [] h (fxX5_isMissing l0 h) := by
  unfold fxX5_isMissing
  refine am_aload_n dX5_isMissing_0 rfl ?_
  refine am_getI dX5_isMissing_1 fk_RX5_9 rfl ?_
  refine am_iconst (v := (-1)) dX5_isMissing_4 (by decide) ?_
  refine am_icmp_ne (tgt := 12) dX5_isMissing_5 (by decide) (fun c1 => ?_) (fun c1 => ?_)
  · refine am_iconst (v := 0) dX5_isMissing_12 (by decide) ?_
    exact am_zret dX5_isMissing_13 rfl rfl
  refine am_iconst (v := 1) dX5_isMissing_8 (by decide) ?_
  refine am_goto (tgt := 13) dX5_isMissing_9 (by decide) ?_
  exact am_zret dX5_isMissing_13 rfl rfl
theorem txX5_isMissing {xs : List Int32} (l0 : Option Nat) (h : am_H) (a : Int32) (h2 : am_H) (e : fxX5_isMissing l0 h = some (a, h2)) : am_Ct xs mX5_isMissing 0 0 0 [am_R l0] h (fun v h3 => v = am_ci a ∧ h3 = h2) := am_meth okX5_isMissing (Nat.le_of_ble_eq_true rfl) rfl (sxX5_isMissing l0 h) e
theorem dX5_hasPlace_0 : am_at cX5_hasPlace 0 (.iload_n 1) 1 1 := by decide +kernel
theorem dX5_hasPlace_1 : am_at cX5_hasPlace 1 (.iconst 0) 1 2 := by decide +kernel
theorem dX5_hasPlace_2 : am_at cX5_hasPlace 2 (.aload_n 0) 1 3 := by decide +kernel
theorem dX5_hasPlace_3 : am_at cX5_hasPlace 3 (.getfield 15) 3 6 := by decide +kernel
theorem dX5_hasPlace_6 : am_at cX5_hasPlace 6 (.iconst 1) 1 7 := by decide +kernel
theorem dX5_hasPlace_7 : am_at cX5_hasPlace 7 (.isub) 1 8 := by decide +kernel
theorem dX5_hasPlace_8 : am_at cX5_hasPlace 8 (.invokestatic 28) 3 11 := by decide +kernel
theorem dX5_hasPlace_11 : am_at cX5_hasPlace 11 (.ireturn) 1 12 := by decide +kernel
def fxX5_hasPlace (l0 : Option Nat) (l1 : Int32) (h : am_H) : Option (Int32 × am_H) := am_gd (am_ob h l0 5) (am_bd (fxX9_within l1 (0 : Int32) ((am_gi h l0 1) - (1 : Int32)) h) (fun r1 h2 => am_gd (am_bz r1) (some (r1, h2))))
set_option maxRecDepth 100000 in
theorem sxX5_hasPlace {xs : List Int32} (l0 : Option Nat) (l1 : Int32) (h : am_H) : am_Sm xs am_ci mX5_hasPlace 1 0 0 0 [some (am_R l0), some (am_I l1)] [] h (fxX5_hasPlace l0 l1 h) := by
  unfold fxX5_hasPlace
  refine am_iload_n dX5_hasPlace_0 rfl ?_
  refine am_iconst (v := 0) dX5_hasPlace_1 (by decide) ?_
  refine am_aload_n dX5_hasPlace_2 rfl ?_
  refine am_getI dX5_hasPlace_3 fk_RX5_15 rfl ?_
  refine am_iconst (v := 1) dX5_hasPlace_6 (by decide) ?_
  refine am_isub dX5_hasPlace_7 ?_
  refine am_callS (cvj := am_ci) (mtj := mX9_within) (dj := 0) (nj := 3) (rcj := 0) (rsj := 0) (rc' := 0) (rs' := 0) (st' := fun a9 => (am_I a9 :: [])) [am_I l1, am_I (0 : Int32), am_I ((am_gi h l0 1) - (1 : Int32))] [] dX5_hasPlace_8 okX9_within lk_RX5_28 (fun zA zH zE => txX9_within l1 (0 : Int32) ((am_gi h l0 1) - (1 : Int32)) h zA zH zE) rfl (fun _ => rfl) (by decide) rfl (Nat.le_of_ble_eq_true rfl) (by decide) (by decide) (fun r1 h2 => ?_)
  exact am_zret dX5_hasPlace_11 rfl rfl
theorem txX5_hasPlace {xs : List Int32} (l0 : Option Nat) (l1 : Int32) (h : am_H) (a : Int32) (h2 : am_H) (e : fxX5_hasPlace l0 l1 h = some (a, h2)) : am_Ct xs mX5_hasPlace 1 0 0 [am_R l0, am_I l1] h (fun v h3 => v = am_ci a ∧ h3 = h2) := am_meth okX5_hasPlace (Nat.le_of_ble_eq_true rfl) rfl (sxX5_hasPlace l0 l1 h) e
theorem dX5_hasPlaces_0 : am_at cX5_hasPlaces 0 (.iload_n 1) 1 1 := by decide +kernel
theorem dX5_hasPlaces_1 : am_at cX5_hasPlaces 1 (.iconst 0) 1 2 := by decide +kernel
theorem dX5_hasPlaces_2 : am_at cX5_hasPlaces 2 (.aload_n 0) 1 3 := by decide +kernel
theorem dX5_hasPlaces_3 : am_at cX5_hasPlaces 3 (.getfield 15) 3 6 := by decide +kernel
theorem dX5_hasPlaces_6 : am_at cX5_hasPlaces 6 (.invokestatic 28) 3 9 := by decide +kernel
theorem dX5_hasPlaces_9 : am_at cX5_hasPlaces 9 (.ifCond .eq 21) 3 12 := by decide +kernel
theorem dX5_hasPlaces_12 : am_at cX5_hasPlaces 12 (.iload_n 2) 1 13 := by decide +kernel
theorem dX5_hasPlaces_13 : am_at cX5_hasPlaces 13 (.iconst 0) 1 14 := by decide +kernel
theorem dX5_hasPlaces_14 : am_at cX5_hasPlaces 14 (.aload_n 0) 1 15 := by decide +kernel
theorem dX5_hasPlaces_15 : am_at cX5_hasPlaces 15 (.getfield 15) 3 18 := by decide +kernel
theorem dX5_hasPlaces_18 : am_at cX5_hasPlaces 18 (.iload_n 1) 1 19 := by decide +kernel
theorem dX5_hasPlaces_19 : am_at cX5_hasPlaces 19 (.isub) 1 20 := by decide +kernel
theorem dX5_hasPlaces_20 : am_at cX5_hasPlaces 20 (.invokestatic 28) 3 23 := by decide +kernel
theorem dX5_hasPlaces_23 : am_at cX5_hasPlaces 23 (.ifCond .eq 7) 3 26 := by decide +kernel
theorem dX5_hasPlaces_26 : am_at cX5_hasPlaces 26 (.iconst 1) 1 27 := by decide +kernel
theorem dX5_hasPlaces_27 : am_at cX5_hasPlaces 27 (.goto 4) 3 30 := by decide +kernel
theorem dX5_hasPlaces_30 : am_at cX5_hasPlaces 30 (.iconst 0) 1 31 := by decide +kernel
theorem dX5_hasPlaces_31 : am_at cX5_hasPlaces 31 (.ireturn) 1 32 := by decide +kernel
def fxX5_hasPlaces (l0 : Option Nat) (l1 : Int32) (l2 : Int32) (h : am_H) : Option (Int32 × am_H) := am_gd (am_ob h l0 5) (am_bd (fxX9_within l1 (0 : Int32) (am_gi h l0 1) h) (fun r1 h2 => if r1 = 0 then (am_gd (am_bz (0 : Int32)) (some ((0 : Int32), h2))) else (am_gd (am_ob h2 l0 5) (am_bd (fxX9_within l2 (0 : Int32) ((am_gi h2 l0 1) - l1) h2) (fun r3 h4 => if r3 = 0 then (am_gd (am_bz (0 : Int32)) (some ((0 : Int32), h4))) else (am_gd (am_bz (1 : Int32)) (some ((1 : Int32), h4))))))))
set_option maxRecDepth 100000 in
theorem sxX5_hasPlaces {xs : List Int32} (l0 : Option Nat) (l1 : Int32) (l2 : Int32) (h : am_H) : am_Sm xs am_ci mX5_hasPlaces 1 0 0 0 [some (am_R l0), some (am_I l1), some (am_I l2)] [] h (fxX5_hasPlaces l0 l1 l2 h) := by
  unfold fxX5_hasPlaces
  refine am_iload_n dX5_hasPlaces_0 rfl ?_
  refine am_iconst (v := 0) dX5_hasPlaces_1 (by decide) ?_
  refine am_aload_n dX5_hasPlaces_2 rfl ?_
  refine am_getI dX5_hasPlaces_3 fk_RX5_15 rfl ?_
  refine am_callS (cvj := am_ci) (mtj := mX9_within) (dj := 0) (nj := 3) (rcj := 0) (rsj := 0) (rc' := 0) (rs' := 0) (st' := fun a9 => (am_I a9 :: [])) [am_I l1, am_I (0 : Int32), am_I (am_gi h l0 1)] [] dX5_hasPlaces_6 okX9_within lk_RX5_28 (fun zA zH zE => txX9_within l1 (0 : Int32) (am_gi h l0 1) h zA zH zE) rfl (fun _ => rfl) (by decide) rfl (Nat.le_of_ble_eq_true rfl) (by decide) (by decide) (fun r1 h2 => ?_)
  refine am_if_eq (tgt := 30) dX5_hasPlaces_9 (by decide) (fun c6 => ?_) (fun c6 => ?_)
  · refine am_iconst (v := 0) dX5_hasPlaces_30 (by decide) ?_
    exact am_zret dX5_hasPlaces_31 rfl rfl
  refine am_iload_n dX5_hasPlaces_12 rfl ?_
  refine am_iconst (v := 0) dX5_hasPlaces_13 (by decide) ?_
  refine am_aload_n dX5_hasPlaces_14 rfl ?_
  refine am_getI dX5_hasPlaces_15 fk_RX5_15 rfl ?_
  refine am_iload_n dX5_hasPlaces_18 rfl ?_
  refine am_isub dX5_hasPlaces_19 ?_
  refine am_callS (cvj := am_ci) (mtj := mX9_within) (dj := 0) (nj := 3) (rcj := 0) (rsj := 0) (rc' := 0) (rs' := 0) (st' := fun a9 => (am_I a9 :: [])) [am_I l2, am_I (0 : Int32), am_I ((am_gi h2 l0 1) - l1)] [] dX5_hasPlaces_20 okX9_within lk_RX5_28 (fun zA zH zE => txX9_within l2 (0 : Int32) ((am_gi h2 l0 1) - l1) h2 zA zH zE) rfl (fun _ => rfl) (by decide) rfl (Nat.le_of_ble_eq_true rfl) (by decide) (by decide) (fun r3 h4 => ?_)
  refine am_if_eq (tgt := 30) dX5_hasPlaces_23 (by decide) (fun c5 => ?_) (fun c5 => ?_)
  · refine am_iconst (v := 0) dX5_hasPlaces_30 (by decide) ?_
    exact am_zret dX5_hasPlaces_31 rfl rfl
  refine am_iconst (v := 1) dX5_hasPlaces_26 (by decide) ?_
  refine am_goto (tgt := 31) dX5_hasPlaces_27 (by decide) ?_
  exact am_zret dX5_hasPlaces_31 rfl rfl
theorem txX5_hasPlaces {xs : List Int32} (l0 : Option Nat) (l1 : Int32) (l2 : Int32) (h : am_H) (a : Int32) (h2 : am_H) (e : fxX5_hasPlaces l0 l1 l2 h = some (a, h2)) : am_Ct xs mX5_hasPlaces 1 0 0 [am_R l0, am_I l1, am_I l2] h (fun v h3 => v = am_ci a ∧ h3 = h2) := am_meth okX5_hasPlaces (Nat.le_of_ble_eq_true rfl) rfl (sxX5_hasPlaces l0 l1 l2 h) e
