theorem dX9_behind_0 : am_at cX9_behind 0 (.iload_n 1) 1 1 := by decide +kernel
theorem dX9_behind_1 : am_at cX9_behind 1 (.iconst 0) 1 2 := by decide +kernel
theorem dX9_behind_2 : am_at cX9_behind 2 (.bipush 100) 2 4 := by decide +kernel
theorem dX9_behind_4 : am_at cX9_behind 4 (.invokestatic 80) 3 7 := by decide +kernel
theorem dX9_behind_7 : am_at cX9_behind 7 (.ifCond .eq 12) 3 10 := by decide +kernel
theorem dX9_behind_10 : am_at cX9_behind 10 (.iload_n 2) 1 11 := by decide +kernel
theorem dX9_behind_11 : am_at cX9_behind 11 (.iconst 0) 1 12 := by decide +kernel
theorem dX9_behind_12 : am_at cX9_behind 12 (.iconst 2) 1 13 := by decide +kernel
theorem dX9_behind_13 : am_at cX9_behind 13 (.invokestatic 80) 3 16 := by decide +kernel
theorem dX9_behind_16 : am_at cX9_behind 16 (.ifCond .ne 6) 3 19 := by decide +kernel
theorem dX9_behind_19 : am_at cX9_behind 19 (.ldc 84) 2 21 := by decide +kernel
theorem dX9_behind_21 : am_at cX9_behind 21 (.ireturn) 1 22 := by decide +kernel
theorem dX9_behind_22 : am_at cX9_behind 22 (.aload_n 0) 1 23 := by decide +kernel
theorem dX9_behind_23 : am_at cX9_behind 23 (.getfield 19) 3 26 := by decide +kernel
theorem dX9_behind_26 : am_at cX9_behind 26 (.aload_n 0) 1 27 := by decide +kernel
theorem dX9_behind_27 : am_at cX9_behind 27 (.getfield 10) 3 30 := by decide +kernel
theorem dX9_behind_30 : am_at cX9_behind 30 (.invokevirtual 192) 3 33 := by decide +kernel
theorem dX9_behind_33 : am_at cX9_behind 33 (.aload_n 0) 1 34 := by decide +kernel
theorem dX9_behind_34 : am_at cX9_behind 34 (.getfield 19) 3 37 := by decide +kernel
theorem dX9_behind_37 : am_at cX9_behind 37 (.iload_n 1) 1 38 := by decide +kernel
theorem dX9_behind_38 : am_at cX9_behind 38 (.iconst (-1)) 1 39 := by decide +kernel
theorem dX9_behind_39 : am_at cX9_behind 39 (.aload_n 0) 1 40 := by decide +kernel
theorem dX9_behind_40 : am_at cX9_behind 40 (.getfield 29) 3 43 := by decide +kernel
theorem dX9_behind_43 : am_at cX9_behind 43 (.invokevirtual 188) 3 46 := by decide +kernel
theorem dX9_behind_46 : am_at cX9_behind 46 (.iload_n 2) 1 47 := by decide +kernel
theorem dX9_behind_47 : am_at cX9_behind 47 (.lookupswitch 38 #[(0, 25), (1, 30)]) 25 72 := by decide +kernel
theorem dX9_behind_72 : am_at cX9_behind 72 (.aload_n 0) 1 73 := by decide +kernel
theorem dX9_behind_73 : am_at cX9_behind 73 (.invokevirtual 196) 3 76 := by decide +kernel
theorem dX9_behind_76 : am_at cX9_behind 76 (.ireturn) 1 77 := by decide +kernel
theorem dX9_behind_77 : am_at cX9_behind 77 (.aload_n 0) 1 78 := by decide +kernel
theorem dX9_behind_78 : am_at cX9_behind 78 (.getfield 19) 3 81 := by decide +kernel
theorem dX9_behind_81 : am_at cX9_behind 81 (.invokevirtual 182) 3 84 := by decide +kernel
theorem dX9_behind_84 : am_at cX9_behind 84 (.ireturn) 1 85 := by decide +kernel
theorem dX9_behind_85 : am_at cX9_behind 85 (.aload_n 0) 1 86 := by decide +kernel
theorem dX9_behind_86 : am_at cX9_behind 86 (.getfield 19) 3 89 := by decide +kernel
theorem dX9_behind_89 : am_at cX9_behind 89 (.invokevirtual 199) 3 92 := by decide +kernel
theorem dX9_behind_92 : am_at cX9_behind 92 (.ireturn) 1 93 := by decide +kernel
def fxX9_behind (l0 : Option Nat) (l1 : Int32) (l2 : Int32) (h : am_H) : Option (Int32 × am_H) := am_bd (fxX9_within l1 (0 : Int32) (100 : Int32) h) (fun r1 h2 => if r1 = 0 then (some ((-1000000001 : Int32), h2)) else (am_bd (fxX9_within l2 (0 : Int32) (2 : Int32) h2) (fun r3 h4 => if r3 = 0 then (some ((-1000000001 : Int32), h4)) else (am_gd (am_ob h4 l0 9) (am_gd (am_ob h4 l0 9) (am_gd (am_ob h4 (am_gr h4 l0 2) 2) (am_bd (fxX2_takeAfter (am_gr h4 l0 2) (am_gr h4 l0 0) h4) (fun _ h5 => am_gd (am_ob h5 l0 9) (am_gd (am_ob h5 l0 9) (am_gd (am_ob h5 (am_gr h5 l0 2) 2) (am_bd (fxX2_live (am_gr h5 l0 2) l1 (-1 : Int32) (am_gr h5 l0 4) h5) (fun _ h6 => if l2 = 0 then (am_gd (am_ob h6 l0 9) (am_bd (fxX9_bestOfThought l0 h6) (fun r7 h8 => some (r7, h8)))) else (if l2 = 1 then (am_gd (am_ob h6 l0 9) (am_gd (am_ob h6 (am_gr h6 l0 2) 2) (am_bd (fxX2_lostCount (am_gr h6 l0 2) h6) (fun r10 h11 => some (r10, h11))))) else (am_gd (am_ob h6 l0 9) (am_gd (am_ob h6 (am_gr h6 l0 2) 2) (am_bd (fxX2_wearOfAll (am_gr h6 l0 2) h6) (fun r13 h14 => some (r13, h14))))))))))))))))))
set_option maxRecDepth 100000 in
theorem sxX9_behind {xs : List Int32} (l0 : Option Nat) (l1 : Int32) (l2 : Int32) (h : am_H) : am_Sm xs am_ci mX9_behind 6 0 0 0 [some (am_R l0), some (am_I l1), some (am_I l2)] [] h (fxX9_behind l0 l1 l2 h) := by
  unfold fxX9_behind
  refine am_iload_n dX9_behind_0 rfl ?_
  refine am_iconst (v := 0) dX9_behind_1 (by decide) ?_
  refine am_bipush (v := 100) dX9_behind_2 (by decide) ?_
  refine am_callS (cvj := am_ci) (mtj := mX9_within) (dj := 0) (nj := 3) (rcj := 0) (rsj := 0) (rc' := 0) (rs' := 0) (st' := fun a9 => (am_I a9 :: [])) [am_I l1, am_I (0 : Int32), am_I (100 : Int32)] [] dX9_behind_4 okX9_within lk_RX9_80 (fun zA zH zE => txX9_within l1 (0 : Int32) (100 : Int32) h zA zH zE) rfl (fun _ => rfl) (by decide) rfl (Nat.le_of_ble_eq_true rfl) (by decide) (by decide) (fun r1 h2 => ?_)
  refine am_if_eq (tgt := 19) dX9_behind_7 (by decide) (fun c16 => ?_) (fun c16 => ?_)
  · refine am_ldc (v := (-1000000001)) dX9_behind_19 wd316 ?_
    exact am_iret dX9_behind_21 rfl rfl
  refine am_iload_n dX9_behind_10 rfl ?_
  refine am_iconst (v := 0) dX9_behind_11 (by decide) ?_
  refine am_iconst (v := 2) dX9_behind_12 (by decide) ?_
  refine am_callS (cvj := am_ci) (mtj := mX9_within) (dj := 0) (nj := 3) (rcj := 0) (rsj := 0) (rc' := 0) (rs' := 0) (st' := fun a9 => (am_I a9 :: [])) [am_I l2, am_I (0 : Int32), am_I (2 : Int32)] [] dX9_behind_13 okX9_within lk_RX9_80 (fun zA zH zE => txX9_within l2 (0 : Int32) (2 : Int32) h2 zA zH zE) rfl (fun _ => rfl) (by decide) rfl (Nat.le_of_ble_eq_true rfl) (by decide) (by decide) (fun r3 h4 => ?_)
  refine am_if_ne (tgt := 22) dX9_behind_16 (by decide) (fun c15 => ?_) (fun c15 => ?_)
  · refine am_aload_n dX9_behind_22 rfl ?_
    refine am_getR dX9_behind_23 fk_RX9_19 rfl ?_
    refine am_aload_n dX9_behind_26 rfl ?_
    refine am_getR dX9_behind_27 fk_RX9_10 rfl ?_
    refine am_callV (cvj := am_cu) (mtj := mX2_takeAfter) (dj := 2) (nj := 1) (rcj := 0) (rsj := 0) (rc' := 0) (rs' := 0) (ci := 2) (st' := fun _ => []) ⟨_, rfl, rfl⟩ [am_R (am_gr h4 l0 0)] [] dX9_behind_30 okX2_takeAfter lk_RX9_192 (fun zA zH zE => txX2_takeAfter (am_gr h4 l0 2) (am_gr h4 l0 0) h4 zA zH zE) rfl (fun _ => rfl) (by decide) rfl (Nat.le_of_ble_eq_true rfl) (by decide) (by decide) (fun _ h5 => ?_)
    refine am_aload_n dX9_behind_33 rfl ?_
    refine am_getR dX9_behind_34 fk_RX9_19 rfl ?_
    refine am_iload_n dX9_behind_37 rfl ?_
    refine am_iconst (v := (-1)) dX9_behind_38 (by decide) ?_
    refine am_aload_n dX9_behind_39 rfl ?_
    refine am_getR dX9_behind_40 fk_RX9_29 rfl ?_
    refine am_callV (cvj := am_cu) (mtj := mX2_live) (dj := 4) (nj := 3) (rcj := 0) (rsj := 0) (rc' := 0) (rs' := 0) (ci := 2) (st' := fun _ => []) ⟨_, rfl, rfl⟩ [am_I l1, am_I (-1 : Int32), am_R (am_gr h5 l0 4)] [] dX9_behind_43 okX2_live lk_RX9_188 (fun zA zH zE => txX2_live (am_gr h5 l0 2) l1 (-1 : Int32) (am_gr h5 l0 4) h5 zA zH zE) rfl (fun _ => rfl) (by decide) rfl (Nat.le_of_ble_eq_true rfl) (by decide) (by decide) (fun _ h6 => ?_)
    refine am_iload_n dX9_behind_46 rfl ?_
    refine am_lookup (cs := [(0, 72), (1, 77)]) (dt := 85) dX9_behind_47 (by decide +kernel) ?_
    refine am_sw_cons (fun c9 => ?_) (fun c9 => ?_)
    · refine am_aload_n dX9_behind_72 rfl ?_
      refine am_callV (cvj := am_ci) (mtj := mX9_bestOfThought) (dj := 5) (nj := 0) (rcj := 0) (rsj := 0) (rc' := 0) (rs' := 0) (ci := 9) (st' := fun a9 => (am_I a9 :: [])) ⟨_, rfl, rfl⟩ [] [] dX9_behind_73 okX9_bestOfThought lk_RX9_196 (fun zA zH zE => txX9_bestOfThought l0 h6 zA zH zE) rfl (fun _ => rfl) (by decide) rfl (Nat.le_of_ble_eq_true rfl) (by decide) (by decide) (fun r7 h8 => ?_)
      exact am_iret dX9_behind_76 rfl rfl
    refine am_sw_cons (fun c12 => ?_) (fun c12 => ?_)
    · refine am_aload_n dX9_behind_77 rfl ?_
      refine am_getR dX9_behind_78 fk_RX9_19 rfl ?_
      refine am_callV (cvj := am_ci) (mtj := mX2_lostCount) (dj := 0) (nj := 0) (rcj := 0) (rsj := 0) (rc' := 0) (rs' := 0) (ci := 2) (st' := fun a9 => (am_I a9 :: [])) ⟨_, rfl, rfl⟩ [] [] dX9_behind_81 okX2_lostCount lk_RX9_182 (fun zA zH zE => txX2_lostCount (am_gr h6 l0 2) h6 zA zH zE) rfl (fun _ => rfl) (by decide) rfl (Nat.le_of_ble_eq_true rfl) (by decide) (by decide) (fun r10 h11 => ?_)
      exact am_iret dX9_behind_84 rfl rfl
    refine am_sw_nil ?_
    refine am_aload_n dX9_behind_85 rfl ?_
    refine am_getR dX9_behind_86 fk_RX9_19 rfl ?_
    refine am_callV (cvj := am_ci) (mtj := mX2_wearOfAll) (dj := 0) (nj := 0) (rcj := 0) (rsj := 0) (rc' := 0) (rs' := 0) (ci := 2) (st' := fun a9 => (am_I a9 :: [])) ⟨_, rfl, rfl⟩ [] [] dX9_behind_89 okX2_wearOfAll lk_RX9_199 (fun zA zH zE => txX2_wearOfAll (am_gr h6 l0 2) h6 zA zH zE) rfl (fun _ => rfl) (by decide) rfl (Nat.le_of_ble_eq_true rfl) (by decide) (by decide) (fun r13 h14 => ?_)
    exact am_iret dX9_behind_92 rfl rfl
  refine am_ldc (v := (-1000000001)) dX9_behind_19 wd316 ?_
  exact am_iret dX9_behind_21 rfl rfl
theorem txX9_behind {xs : List Int32} (l0 : Option Nat) (l1 : Int32) (l2 : Int32) (h : am_H) (a : Int32) (h2 : am_H) (e : fxX9_behind l0 l1 l2 h = some (a, h2)) : am_Ct xs mX9_behind 6 0 0 [am_R l0, am_I l1, am_I l2] h (fun v h3 => v = am_ci a ∧ h3 = h2) := am_meth okX9_behind (Nat.le_of_ble_eq_true rfl) rfl (sxX9_behind l0 l1 l2 h) e
theorem dX9_keepHome_0 : am_at cX9_keepHome 0 (.iload_n 1) 1 1 := by decide +kernel
theorem dX9_keepHome_1 : am_at cX9_keepHome 1 (.iconst 1) 1 2 := by decide +kernel
theorem dX9_keepHome_2 : am_at cX9_keepHome 2 (.bipush 30) 2 4 := by decide +kernel
theorem dX9_keepHome_4 : am_at cX9_keepHome 4 (.invokestatic 80) 3 7 := by decide +kernel
theorem dX9_keepHome_7 : am_at cX9_keepHome 7 (.ifCond .ne 6) 3 10 := by decide +kernel
theorem dX9_keepHome_10 : am_at cX9_keepHome 10 (.ldc 84) 2 12 := by decide +kernel
theorem dX9_keepHome_12 : am_at cX9_keepHome 12 (.ireturn) 1 13 := by decide +kernel
theorem dX9_keepHome_13 : am_at cX9_keepHome 13 (.ldc 135) 2 15 := by decide +kernel
theorem dX9_keepHome_15 : am_at cX9_keepHome 15 (.istore_n 2) 1 16 := by decide +kernel
theorem dX9_keepHome_16 : am_at cX9_keepHome 16 (.iconst (-1)) 1 17 := by decide +kernel
theorem dX9_keepHome_17 : am_at cX9_keepHome 17 (.istore_n 3) 1 18 := by decide +kernel
theorem dX9_keepHome_18 : am_at cX9_keepHome 18 (.iconst 0) 1 19 := by decide +kernel
theorem dX9_keepHome_19 : am_at cX9_keepHome 19 (.istore 4) 2 21 := by decide +kernel
theorem dX9_keepHome_21 : am_at cX9_keepHome 21 (.iload 4) 2 23 := by decide +kernel
theorem dX9_keepHome_23 : am_at cX9_keepHome 23 (.aload_n 0) 1 24 := by decide +kernel
theorem dX9_keepHome_24 : am_at cX9_keepHome 24 (.getfield 10) 3 27 := by decide +kernel
theorem dX9_keepHome_27 : am_at cX9_keepHome 27 (.getfield 136) 3 30 := by decide +kernel
theorem dX9_keepHome_30 : am_at cX9_keepHome 30 (.if_icmp .ge 52) 3 33 := by decide +kernel
theorem dX9_keepHome_33 : am_at cX9_keepHome 33 (.aload_n 0) 1 34 := by decide +kernel
theorem dX9_keepHome_34 : am_at cX9_keepHome 34 (.getfield 19) 3 37 := by decide +kernel
theorem dX9_keepHome_37 : am_at cX9_keepHome 37 (.aload_n 0) 1 38 := by decide +kernel
theorem dX9_keepHome_38 : am_at cX9_keepHome 38 (.getfield 10) 3 41 := by decide +kernel
theorem dX9_keepHome_41 : am_at cX9_keepHome 41 (.invokevirtual 192) 3 44 := by decide +kernel
theorem dX9_keepHome_44 : am_at cX9_keepHome 44 (.aload_n 0) 1 45 := by decide +kernel
theorem dX9_keepHome_45 : am_at cX9_keepHome 45 (.getfield 19) 3 48 := by decide +kernel
theorem dX9_keepHome_48 : am_at cX9_keepHome 48 (.iload_n 1) 1 49 := by decide +kernel
theorem dX9_keepHome_49 : am_at cX9_keepHome 49 (.iload 4) 2 51 := by decide +kernel
theorem dX9_keepHome_51 : am_at cX9_keepHome 51 (.aload_n 0) 1 52 := by decide +kernel
theorem dX9_keepHome_52 : am_at cX9_keepHome 52 (.getfield 29) 3 55 := by decide +kernel
theorem dX9_keepHome_55 : am_at cX9_keepHome 55 (.invokevirtual 188) 3 58 := by decide +kernel
theorem dX9_keepHome_58 : am_at cX9_keepHome 58 (.aload_n 0) 1 59 := by decide +kernel
theorem dX9_keepHome_59 : am_at cX9_keepHome 59 (.invokevirtual 196) 3 62 := by decide +kernel
theorem dX9_keepHome_62 : am_at cX9_keepHome 62 (.istore 5) 2 64 := by decide +kernel
theorem dX9_keepHome_64 : am_at cX9_keepHome 64 (.iload 5) 2 66 := by decide +kernel
theorem dX9_keepHome_66 : am_at cX9_keepHome 66 (.iload_n 3) 1 67 := by decide +kernel
theorem dX9_keepHome_67 : am_at cX9_keepHome 67 (.if_icmp .le 9) 3 70 := by decide +kernel
theorem dX9_keepHome_70 : am_at cX9_keepHome 70 (.iload 5) 2 72 := by decide +kernel
theorem dX9_keepHome_72 : am_at cX9_keepHome 72 (.istore_n 3) 1 73 := by decide +kernel
theorem dX9_keepHome_73 : am_at cX9_keepHome 73 (.iload 4) 2 75 := by decide +kernel
theorem dX9_keepHome_75 : am_at cX9_keepHome 75 (.istore_n 2) 1 76 := by decide +kernel
theorem dX9_keepHome_76 : am_at cX9_keepHome 76 (.iinc 4 1) 3 79 := by decide +kernel
theorem dX9_keepHome_79 : am_at cX9_keepHome 79 (.goto (-58)) 3 82 := by decide +kernel
theorem dX9_keepHome_82 : am_at cX9_keepHome 82 (.iload_n 2) 1 83 := by decide +kernel
theorem dX9_keepHome_83 : am_at cX9_keepHome 83 (.ireturn) 1 84 := by decide +kernel
def fxX9_keepHome_b76 (k21 : Option Nat → Int32 → Int32 → Int32 → Int32 → am_H → Option (Int32 × am_H)) (l0 : Option Nat) (l1 : Int32) (l2 : Int32) (l3 : Int32) (l4 : Int32) (h : am_H) : Option (Int32 × am_H) := am_lt (l4 + 1) (fun x16 => k21 l0 l1 l2 l3 x16 h)
set_option maxRecDepth 100000 in
theorem sxX9_keepHome_b76 {xs : List Int32} (k21 : Option Nat → Int32 → Int32 → Int32 → Int32 → am_H → Option (Int32 × am_H)) (hk21 : ∀ (l0 : Option Nat) (l1 : Int32) (l2 : Int32) (l3 : Int32) (l4 : Int32) (h : am_H), am_Sm xs am_ci mX9_keepHome 6 0 0 21 [some (am_R l0), some (am_I l1), some (am_I l2), some (am_I l3), some (am_I l4), none] [] h (k21 l0 l1 l2 l3 l4 h)) (l0 : Option Nat) (l1 : Int32) (l2 : Int32) (l3 : Int32) (l4 : Int32) (h : am_H) : am_Sm xs am_ci mX9_keepHome 6 0 0 76 [some (am_R l0), some (am_I l1), some (am_I l2), some (am_I l3), some (am_I l4), none] [] h (fxX9_keepHome_b76 k21 l0 l1 l2 l3 l4 h) := by
  unfold fxX9_keepHome_b76
  refine am_iinc (v := 1) (LL := fun y9 => [some (am_R l0), some (am_I l1), some (am_I l2), some (am_I l3), some (am_I y9), none]) dX9_keepHome_76 (by decide) rfl (by decide) (fun _ => rfl) (fun x16 => ?_)
  refine am_goto (tgt := 21) dX9_keepHome_79 (by decide) ?_
  exact am_weak (hk21 l0 l1 l2 l3 x16 h) ⟨rfl, ⟨rfl, ⟨rfl, ⟨rfl, ⟨rfl, trivial⟩⟩⟩⟩⟩ (Nat.le_refl _) (Nat.le_refl _)
def fxX9_keepHome_b21 : Nat → Option Nat → Int32 → Int32 → Int32 → Int32 → am_H → Option (Int32 × am_H)
  | 0, _, _, _, _, _, _ => none
  | n + 1, l0, l1, l2, l3, l4, h => am_gd (am_ob h l0 9) (am_gd (am_ob h (am_gr h l0 0) 2) (if (am_gi h (am_gr h l0 0) 1) ≤ l4 then (some (l2, h)) else (am_gd (am_ob h l0 9) (am_gd (am_ob h l0 9) (am_gd (am_ob h (am_gr h l0 2) 2) (am_bd (fxX2_takeAfter (am_gr h l0 2) (am_gr h l0 0) h) (fun _ h7 => am_gd (am_ob h7 l0 9) (am_gd (am_ob h7 l0 9) (am_gd (am_ob h7 (am_gr h7 l0 2) 2) (am_bd (fxX2_live (am_gr h7 l0 2) l1 l4 (am_gr h7 l0 4) h7) (fun _ h8 => am_gd (am_ob h8 l0 9) (am_bd (fxX9_bestOfThought l0 h8) (fun r9 h10 => am_lt r9 (fun x11 => if x11 ≤ l3 then (fxX9_keepHome_b76 (fxX9_keepHome_b21 n) l0 l1 l2 l3 l4 h10) else (am_lt x11 (fun x12 => am_lt l4 (fun x13 => fxX9_keepHome_b76 (fxX9_keepHome_b21 n) l0 l1 x13 x12 l4 h10)))))))))))))))))
set_option maxRecDepth 100000 in
theorem sxX9_keepHome_b21 {xs : List Int32} : ∀ (n : Nat) (l0 : Option Nat) (l1 : Int32) (l2 : Int32) (l3 : Int32) (l4 : Int32) (h : am_H), am_Sm xs am_ci mX9_keepHome 6 0 0 21 [some (am_R l0), some (am_I l1), some (am_I l2), some (am_I l3), some (am_I l4), none] [] h (fxX9_keepHome_b21 n l0 l1 l2 l3 l4 h) := by
  intro n
  induction n with
  | zero => intros; exact am_none
  | succ n ih =>
    intro l0 l1 l2 l3 l4 h
    rw [fxX9_keepHome_b21]
    refine am_iload dX9_keepHome_21 rfl ?_
    refine am_aload_n dX9_keepHome_23 rfl ?_
    refine am_getR dX9_keepHome_24 fk_RX9_10 rfl ?_
    refine am_getI dX9_keepHome_27 fk_RX9_136 rfl ?_
    refine am_icmp_ge (tgt := 82) dX9_keepHome_30 (by decide) (fun c15 => ?_) (fun c15 => ?_)
    · refine am_iload_n dX9_keepHome_82 rfl ?_
      exact am_iret dX9_keepHome_83 rfl rfl
    refine am_aload_n dX9_keepHome_33 rfl ?_
    refine am_getR dX9_keepHome_34 fk_RX9_19 rfl ?_
    refine am_aload_n dX9_keepHome_37 rfl ?_
    refine am_getR dX9_keepHome_38 fk_RX9_10 rfl ?_
    refine am_callV (cvj := am_cu) (mtj := mX2_takeAfter) (dj := 2) (nj := 1) (rcj := 0) (rsj := 0) (rc' := 0) (rs' := 0) (ci := 2) (st' := fun _ => []) ⟨_, rfl, rfl⟩ [am_R (am_gr h l0 0)] [] dX9_keepHome_41 okX2_takeAfter lk_RX9_192 (fun zA zH zE => txX2_takeAfter (am_gr h l0 2) (am_gr h l0 0) h zA zH zE) rfl (fun _ => rfl) (by decide) rfl (Nat.le_of_ble_eq_true rfl) (by decide) (by decide) (fun _ h7 => ?_)
    refine am_aload_n dX9_keepHome_44 rfl ?_
    refine am_getR dX9_keepHome_45 fk_RX9_19 rfl ?_
    refine am_iload_n dX9_keepHome_48 rfl ?_
    refine am_iload dX9_keepHome_49 rfl ?_
    refine am_aload_n dX9_keepHome_51 rfl ?_
    refine am_getR dX9_keepHome_52 fk_RX9_29 rfl ?_
    refine am_callV (cvj := am_cu) (mtj := mX2_live) (dj := 4) (nj := 3) (rcj := 0) (rsj := 0) (rc' := 0) (rs' := 0) (ci := 2) (st' := fun _ => []) ⟨_, rfl, rfl⟩ [am_I l1, am_I l4, am_R (am_gr h7 l0 4)] [] dX9_keepHome_55 okX2_live lk_RX9_188 (fun zA zH zE => txX2_live (am_gr h7 l0 2) l1 l4 (am_gr h7 l0 4) h7 zA zH zE) rfl (fun _ => rfl) (by decide) rfl (Nat.le_of_ble_eq_true rfl) (by decide) (by decide) (fun _ h8 => ?_)
    refine am_aload_n dX9_keepHome_58 rfl ?_
    refine am_callV (cvj := am_ci) (mtj := mX9_bestOfThought) (dj := 5) (nj := 0) (rcj := 0) (rsj := 0) (rc' := 0) (rs' := 0) (ci := 9) (st' := fun a9 => (am_I a9 :: [])) ⟨_, rfl, rfl⟩ [] [] dX9_keepHome_59 okX9_bestOfThought lk_RX9_196 (fun zA zH zE => txX9_bestOfThought l0 h8 zA zH zE) rfl (fun _ => rfl) (by decide) rfl (Nat.le_of_ble_eq_true rfl) (by decide) (by decide) (fun r9 h10 => ?_)
    refine am_istore (LL := fun y9 => [some (am_R l0), some (am_I l1), some (am_I l2), some (am_I l3), some (am_I l4), some (am_I y9)]) dX9_keepHome_62 (by decide) (fun _ => rfl) (fun x11 => ?_)
    refine am_iload dX9_keepHome_64 rfl ?_
    refine am_iload_n dX9_keepHome_66 rfl ?_
    refine am_icmp_le (tgt := 76) dX9_keepHome_67 (by decide) (fun c14 => ?_) (fun c14 => ?_)
    · exact am_weak (sxX9_keepHome_b76 (fxX9_keepHome_b21 n) ih l0 l1 l2 l3 l4 h10) ⟨rfl, ⟨rfl, ⟨rfl, ⟨rfl, ⟨rfl, trivial⟩⟩⟩⟩⟩ (Nat.le_refl _) (Nat.le_refl _)
    refine am_iload dX9_keepHome_70 rfl ?_
    refine am_istore_n (LL := fun y9 => [some (am_R l0), some (am_I l1), some (am_I l2), some (am_I y9), some (am_I l4), some (am_I x11)]) dX9_keepHome_72 (by decide) (fun _ => rfl) (fun x12 => ?_)
    refine am_iload dX9_keepHome_73 rfl ?_
    refine am_istore_n (LL := fun y9 => [some (am_R l0), some (am_I l1), some (am_I y9), some (am_I x12), some (am_I l4), some (am_I x11)]) dX9_keepHome_75 (by decide) (fun _ => rfl) (fun x13 => ?_)
    exact am_weak (sxX9_keepHome_b76 (fxX9_keepHome_b21 n) ih l0 l1 x13 x12 l4 h10) ⟨rfl, ⟨rfl, ⟨rfl, ⟨rfl, ⟨rfl, trivial⟩⟩⟩⟩⟩ (Nat.le_refl _) (Nat.le_refl _)
def fxX9_keepHome (l0 : Option Nat) (l1 : Int32) (h : am_H) : Option (Int32 × am_H) := am_bd (fxX9_within l1 (1 : Int32) (30 : Int32) h) (fun r1 h2 => if r1 = 0 then (some ((-1000000001 : Int32), h2)) else (am_lt (-1000000005 : Int32) (fun x3 => am_lt (-1 : Int32) (fun x4 => am_lt (0 : Int32) (fun x5 => fxX9_keepHome_b21 am_F l0 l1 x3 x4 x5 h2)))))
set_option maxRecDepth 100000 in
theorem sxX9_keepHome {xs : List Int32} (l0 : Option Nat) (l1 : Int32) (h : am_H) : am_Sm xs am_ci mX9_keepHome 6 0 0 0 [some (am_R l0), some (am_I l1), none, none, none, none] [] h (fxX9_keepHome l0 l1 h) := by
  unfold fxX9_keepHome
  refine am_iload_n dX9_keepHome_0 rfl ?_
  refine am_iconst (v := 1) dX9_keepHome_1 (by decide) ?_
  refine am_bipush (v := 30) dX9_keepHome_2 (by decide) ?_
  refine am_callS (cvj := am_ci) (mtj := mX9_within) (dj := 0) (nj := 3) (rcj := 0) (rsj := 0) (rc' := 0) (rs' := 0) (st' := fun a9 => (am_I a9 :: [])) [am_I l1, am_I (1 : Int32), am_I (30 : Int32)] [] dX9_keepHome_4 okX9_within lk_RX9_80 (fun zA zH zE => txX9_within l1 (1 : Int32) (30 : Int32) h zA zH zE) rfl (fun _ => rfl) (by decide) rfl (Nat.le_of_ble_eq_true rfl) (by decide) (by decide) (fun r1 h2 => ?_)
  refine am_if_ne (tgt := 13) dX9_keepHome_7 (by decide) (fun c6 => ?_) (fun c6 => ?_)
  · refine am_ldc (v := (-1000000005)) dX9_keepHome_13 wd429 ?_
    refine am_istore_n (LL := fun y9 => [some (am_R l0), some (am_I l1), some (am_I y9), none, none, none]) dX9_keepHome_15 (by decide) (fun _ => rfl) (fun x3 => ?_)
    refine am_iconst (v := (-1)) dX9_keepHome_16 (by decide) ?_
    refine am_istore_n (LL := fun y9 => [some (am_R l0), some (am_I l1), some (am_I x3), some (am_I y9), none, none]) dX9_keepHome_17 (by decide) (fun _ => rfl) (fun x4 => ?_)
    refine am_iconst (v := 0) dX9_keepHome_18 (by decide) ?_
    refine am_istore (LL := fun y9 => [some (am_R l0), some (am_I l1), some (am_I x3), some (am_I x4), some (am_I y9), none]) dX9_keepHome_19 (by decide) (fun _ => rfl) (fun x5 => ?_)
    exact am_weak (sxX9_keepHome_b21 am_F l0 l1 x3 x4 x5 h2) ⟨rfl, ⟨rfl, ⟨rfl, ⟨rfl, ⟨rfl, trivial⟩⟩⟩⟩⟩ (Nat.le_refl _) (Nat.le_refl _)
  refine am_ldc (v := (-1000000001)) dX9_keepHome_10 wd316 ?_
  exact am_iret dX9_keepHome_12 rfl rfl
theorem txX9_keepHome {xs : List Int32} (l0 : Option Nat) (l1 : Int32) (h : am_H) (a : Int32) (h2 : am_H) (e : fxX9_keepHome l0 l1 h = some (a, h2)) : am_Ct xs mX9_keepHome 6 0 0 [am_R l0, am_I l1] h (fun v h3 => v = am_ci a ∧ h3 = h2) := am_meth okX9_keepHome (Nat.le_of_ble_eq_true rfl) rfl (sxX9_keepHome l0 l1 h) e
theorem dX9_fine_0 : am_at cX9_fine 0 (.aload_n 0) 1 1 := by decide +kernel
theorem dX9_fine_1 : am_at cX9_fine 1 (.getfield 10) 3 4 := by decide +kernel
theorem dX9_fine_4 : am_at cX9_fine 4 (.getfield 202) 3 7 := by decide +kernel
theorem dX9_fine_7 : am_at cX9_fine 7 (.iconst 2) 1 8 := by decide +kernel
theorem dX9_fine_8 : am_at cX9_fine 8 (.iaload) 1 9 := by decide +kernel
theorem dX9_fine_9 : am_at cX9_fine 9 (.istore_n 1) 1 10 := by decide +kernel
theorem dX9_fine_10 : am_at cX9_fine 10 (.aload_n 0) 1 11 := by decide +kernel
theorem dX9_fine_11 : am_at cX9_fine 11 (.getfield 10) 3 14 := by decide +kernel
theorem dX9_fine_14 : am_at cX9_fine 14 (.invokevirtual 182) 3 17 := by decide +kernel
theorem dX9_fine_17 : am_at cX9_fine 17 (.istore_n 2) 1 18 := by decide +kernel
theorem dX9_fine_18 : am_at cX9_fine 18 (.iload_n 1) 1 19 := by decide +kernel
theorem dX9_fine_19 : am_at cX9_fine 19 (.iconst (-1)) 1 20 := by decide +kernel
theorem dX9_fine_20 : am_at cX9_fine 20 (.if_icmp .ne 7) 3 23 := by decide +kernel
theorem dX9_fine_23 : am_at cX9_fine 23 (.iload_n 2) 1 24 := by decide +kernel
theorem dX9_fine_24 : am_at cX9_fine 24 (.goto 20) 3 27 := by decide +kernel
theorem dX9_fine_27 : am_at cX9_fine 27 (.aload_n 0) 1 28 := by decide +kernel
theorem dX9_fine_28 : am_at cX9_fine 28 (.getfield 29) 3 31 := by decide +kernel
theorem dX9_fine_31 : am_at cX9_fine 31 (.iload_n 1) 1 32 := by decide +kernel
theorem dX9_fine_32 : am_at cX9_fine 32 (.aload_n 0) 1 33 := by decide +kernel
theorem dX9_fine_33 : am_at cX9_fine 33 (.getfield 10) 3 36 := by decide +kernel
theorem dX9_fine_36 : am_at cX9_fine 36 (.getfield 185) 3 39 := by decide +kernel
theorem dX9_fine_39 : am_at cX9_fine 39 (.iload_n 2) 1 40 := by decide +kernel
theorem dX9_fine_40 : am_at cX9_fine 40 (.iconst 0) 1 41 := by decide +kernel
theorem dX9_fine_41 : am_at cX9_fine 41 (.invokevirtual 205) 3 44 := by decide +kernel
theorem dX9_fine_44 : am_at cX9_fine 44 (.ireturn) 1 45 := by decide +kernel
def fxX9_fine (l0 : Option Nat) (h : am_H) : Option (Int32 × am_H) := am_gd (am_ob h l0 9) (am_gd (am_ob h (am_gr h l0 0) 2) (am_gd (am_ix h (am_gr h (am_gr h l0 0) 9) 0 (2 : Int32)) (am_lt (am_gi h (am_gr h (am_gr h l0 0) 9) (2 : Int32).toNatClampNeg) (fun x1 => am_gd (am_ob h l0 9) (am_gd (am_ob h (am_gr h l0 0) 2) (am_bd (fxX2_lostCount (am_gr h l0 0) h) (fun r2 h3 => am_lt r2 (fun x4 => if x1 = (-1 : Int32) then (some (x4, h3)) else (am_gd (am_ob h3 l0 9) (am_gd (am_ob h3 l0 9) (am_gd (am_ob h3 (am_gr h3 l0 0) 2) (am_gd (am_ob h3 (am_gr h3 l0 4) 0) (am_bd (fxX0_give (am_gr h3 l0 4) x1 (am_gi h3 (am_gr h3 l0 0) 3) x4 (0 : Int32) h3) (fun r5 h6 => some (r5, h6)))))))))))))))
set_option maxRecDepth 100000 in
theorem sxX9_fine {xs : List Int32} (l0 : Option Nat) (h : am_H) : am_Sm xs am_ci mX9_fine 3 0 0 0 [some (am_R l0), none, none] [] h (fxX9_fine l0 h) := by
  unfold fxX9_fine
  refine am_aload_n dX9_fine_0 rfl ?_
  refine am_getR dX9_fine_1 fk_RX9_10 rfl ?_
  refine am_getR dX9_fine_4 fk_RX9_202 rfl ?_
  refine am_iconst (v := 2) dX9_fine_7 (by decide) ?_
  refine am_iald dX9_fine_8 ?_
  refine am_istore_n (LL := fun y9 => [some (am_R l0), some (am_I y9), none]) dX9_fine_9 (by decide) (fun _ => rfl) (fun x1 => ?_)
  refine am_aload_n dX9_fine_10 rfl ?_
  refine am_getR dX9_fine_11 fk_RX9_10 rfl ?_
  refine am_callV (cvj := am_ci) (mtj := mX2_lostCount) (dj := 0) (nj := 0) (rcj := 0) (rsj := 0) (rc' := 0) (rs' := 0) (ci := 2) (st' := fun a9 => (am_I a9 :: [])) ⟨_, rfl, rfl⟩ [] [] dX9_fine_14 okX2_lostCount lk_RX9_182 (fun zA zH zE => txX2_lostCount (am_gr h l0 0) h zA zH zE) rfl (fun _ => rfl) (by decide) rfl (Nat.le_of_ble_eq_true rfl) (by decide) (by decide) (fun r2 h3 => ?_)
  refine am_istore_n (LL := fun y9 => [some (am_R l0), some (am_I x1), some (am_I y9)]) dX9_fine_17 (by decide) (fun _ => rfl) (fun x4 => ?_)
  refine am_iload_n dX9_fine_18 rfl ?_
  refine am_iconst (v := (-1)) dX9_fine_19 (by decide) ?_
  refine am_icmp_ne (tgt := 27) dX9_fine_20 (by decide) (fun c7 => ?_) (fun c7 => ?_)
  · refine am_aload_n dX9_fine_27 rfl ?_
    refine am_getR dX9_fine_28 fk_RX9_29 rfl ?_
    refine am_iload_n dX9_fine_31 rfl ?_
    refine am_aload_n dX9_fine_32 rfl ?_
    refine am_getR dX9_fine_33 fk_RX9_10 rfl ?_
    refine am_getI dX9_fine_36 fk_RX9_185 rfl ?_
    refine am_iload_n dX9_fine_39 rfl ?_
    refine am_iconst (v := 0) dX9_fine_40 (by decide) ?_
    refine am_callV (cvj := am_ci) (mtj := mX0_give) (dj := 2) (nj := 4) (rcj := 0) (rsj := 0) (rc' := 0) (rs' := 0) (ci := 0) (st' := fun a9 => (am_I a9 :: [])) ⟨_, rfl, rfl⟩ [am_I x1, am_I (am_gi h3 (am_gr h3 l0 0) 3), am_I x4, am_I (0 : Int32)] [] dX9_fine_41 okX0_give lk_RX9_205 (fun zA zH zE => txX0_give (am_gr h3 l0 4) x1 (am_gi h3 (am_gr h3 l0 0) 3) x4 (0 : Int32) h3 zA zH zE) rfl (fun _ => rfl) (by decide) rfl (Nat.le_of_ble_eq_true rfl) (by decide) (by decide) (fun r5 h6 => ?_)
    exact am_iret dX9_fine_44 rfl rfl
  refine am_iload_n dX9_fine_23 rfl ?_
  refine am_goto (tgt := 44) dX9_fine_24 (by decide) ?_
  exact am_iret dX9_fine_44 rfl rfl
theorem txX9_fine {xs : List Int32} (l0 : Option Nat) (h : am_H) (a : Int32) (h2 : am_H) (e : fxX9_fine l0 h = some (a, h2)) : am_Ct xs mX9_fine 3 0 0 [am_R l0] h (fun v h3 => v = am_ci a ∧ h3 = h2) := am_meth okX9_fine (Nat.le_of_ble_eq_true rfl) rfl (sxX9_fine l0 h) e
theorem dX9_isWord_0 : am_at cX9_isWord 0 (.iload_n 0) 1 1 := by decide +kernel
theorem dX9_isWord_1 : am_at cX9_isWord 1 (.iconst 0) 1 2 := by decide +kernel
theorem dX9_isWord_2 : am_at cX9_isWord 2 (.iconst 4) 1 3 := by decide +kernel
theorem dX9_isWord_3 : am_at cX9_isWord 3 (.invokestatic 80) 3 6 := by decide +kernel
theorem dX9_isWord_6 : am_at cX9_isWord 6 (.ireturn) 1 7 := by decide +kernel
def fxX9_isWord (l0 : Int32) (h : am_H) : Option (Int32 × am_H) := am_bd (fxX9_within l0 (0 : Int32) (4 : Int32) h) (fun r1 h2 => am_gd (am_bz r1) (some (r1, h2)))
set_option maxRecDepth 100000 in
theorem sxX9_isWord {xs : List Int32} (l0 : Int32) (h : am_H) : am_Sm xs am_ci mX9_isWord 1 0 0 0 [some (am_I l0)] [] h (fxX9_isWord l0 h) := by
  unfold fxX9_isWord
  refine am_iload_n dX9_isWord_0 rfl ?_
  refine am_iconst (v := 0) dX9_isWord_1 (by decide) ?_
  refine am_iconst (v := 4) dX9_isWord_2 (by decide) ?_
  refine am_callS (cvj := am_ci) (mtj := mX9_within) (dj := 0) (nj := 3) (rcj := 0) (rsj := 0) (rc' := 0) (rs' := 0) (st' := fun a9 => (am_I a9 :: [])) [am_I l0, am_I (0 : Int32), am_I (4 : Int32)] [] dX9_isWord_3 okX9_within lk_RX9_80 (fun zA zH zE => txX9_within l0 (0 : Int32) (4 : Int32) h zA zH zE) rfl (fun _ => rfl) (by decide) rfl (Nat.le_of_ble_eq_true rfl) (by decide) (by decide) (fun r1 h2 => ?_)
  exact am_zret dX9_isWord_6 rfl rfl
theorem txX9_isWord {xs : List Int32} (l0 : Int32) (h : am_H) (a : Int32) (h2 : am_H) (e : fxX9_isWord l0 h = some (a, h2)) : am_Ct xs mX9_isWord 1 0 0 [am_I l0] h (fun v h3 => v = am_ci a ∧ h3 = h2) := am_meth okX9_isWord (Nat.le_of_ble_eq_true rfl) rfl (sxX9_isWord l0 h) e
theorem dX9_worn_0 : am_at cX9_worn 0 (.iload_n 1) 1 1 := by decide +kernel
theorem dX9_worn_1 : am_at cX9_worn 1 (.invokestatic 208) 3 4 := by decide +kernel
theorem dX9_worn_4 : am_at cX9_worn 4 (.ifCond .eq 10) 3 7 := by decide +kernel
theorem dX9_worn_7 : am_at cX9_worn 7 (.iload_n 2) 1 8 := by decide +kernel
theorem dX9_worn_8 : am_at cX9_worn 8 (.invokestatic 208) 3 11 := by decide +kernel
theorem dX9_worn_11 : am_at cX9_worn 11 (.ifCond .ne 6) 3 14 := by decide +kernel
theorem dX9_worn_14 : am_at cX9_worn 14 (.ldc 84) 2 16 := by decide +kernel
theorem dX9_worn_16 : am_at cX9_worn 16 (.ireturn) 1 17 := by decide +kernel
theorem dX9_worn_17 : am_at cX9_worn 17 (.aload_n 0) 1 18 := by decide +kernel
theorem dX9_worn_18 : am_at cX9_worn 18 (.getfield 10) 3 21 := by decide +kernel
theorem dX9_worn_21 : am_at cX9_worn 21 (.iload_n 1) 1 22 := by decide +kernel
theorem dX9_worn_22 : am_at cX9_worn 22 (.iload_n 2) 1 23 := by decide +kernel
theorem dX9_worn_23 : am_at cX9_worn 23 (.invokevirtual 211) 3 26 := by decide +kernel
theorem dX9_worn_26 : am_at cX9_worn 26 (.ireturn) 1 27 := by decide +kernel
def fxX9_worn (l0 : Option Nat) (l1 : Int32) (l2 : Int32) (h : am_H) : Option (Int32 × am_H) := am_bd (fxX9_isWord l1 h) (fun r1 h2 => if r1 = 0 then (some ((-1000000001 : Int32), h2)) else (am_bd (fxX9_isWord l2 h2) (fun r3 h4 => if r3 = 0 then (some ((-1000000001 : Int32), h4)) else (am_gd (am_ob h4 l0 9) (am_gd (am_ob h4 (am_gr h4 l0 0) 2) (am_bd (fxX2_addWorn (am_gr h4 l0 0) l1 l2 h4) (fun r5 h6 => some (r5, h6))))))))
set_option maxRecDepth 100000 in
theorem sxX9_worn {xs : List Int32} (l0 : Option Nat) (l1 : Int32) (l2 : Int32) (h : am_H) : am_Sm xs am_ci mX9_worn 2 0 0 0 [some (am_R l0), some (am_I l1), some (am_I l2)] [] h (fxX9_worn l0 l1 l2 h) := by
  unfold fxX9_worn
  refine am_iload_n dX9_worn_0 rfl ?_
  refine am_callS (cvj := am_ci) (mtj := mX9_isWord) (dj := 1) (nj := 1) (rcj := 0) (rsj := 0) (rc' := 0) (rs' := 0) (st' := fun a9 => (am_I a9 :: [])) [am_I l1] [] dX9_worn_1 okX9_isWord lk_RX9_208 (fun zA zH zE => txX9_isWord l1 h zA zH zE) rfl (fun _ => rfl) (by decide) rfl (Nat.le_of_ble_eq_true rfl) (by decide) (by decide) (fun r1 h2 => ?_)
  refine am_if_eq (tgt := 14) dX9_worn_4 (by decide) (fun c8 => ?_) (fun c8 => ?_)
  · refine am_ldc (v := (-1000000001)) dX9_worn_14 wd316 ?_
    exact am_iret dX9_worn_16 rfl rfl
  refine am_iload_n dX9_worn_7 rfl ?_
  refine am_callS (cvj := am_ci) (mtj := mX9_isWord) (dj := 1) (nj := 1) (rcj := 0) (rsj := 0) (rc' := 0) (rs' := 0) (st' := fun a9 => (am_I a9 :: [])) [am_I l2] [] dX9_worn_8 okX9_isWord lk_RX9_208 (fun zA zH zE => txX9_isWord l2 h2 zA zH zE) rfl (fun _ => rfl) (by decide) rfl (Nat.le_of_ble_eq_true rfl) (by decide) (by decide) (fun r3 h4 => ?_)
  refine am_if_ne (tgt := 17) dX9_worn_11 (by decide) (fun c7 => ?_) (fun c7 => ?_)
  · refine am_aload_n dX9_worn_17 rfl ?_
    refine am_getR dX9_worn_18 fk_RX9_10 rfl ?_
    refine am_iload_n dX9_worn_21 rfl ?_
    refine am_iload_n dX9_worn_22 rfl ?_
    refine am_callV (cvj := am_ci) (mtj := mX2_addWorn) (dj := 0) (nj := 2) (rcj := 0) (rsj := 0) (rc' := 0) (rs' := 0) (ci := 2) (st' := fun a9 => (am_I a9 :: [])) ⟨_, rfl, rfl⟩ [am_I l1, am_I l2] [] dX9_worn_23 okX2_addWorn lk_RX9_211 (fun zA zH zE => txX2_addWorn (am_gr h4 l0 0) l1 l2 h4 zA zH zE) rfl (fun _ => rfl) (by decide) rfl (Nat.le_of_ble_eq_true rfl) (by decide) (by decide) (fun r5 h6 => ?_)
    exact am_iret dX9_worn_26 rfl rfl
  refine am_ldc (v := (-1000000001)) dX9_worn_14 wd316 ?_
  exact am_iret dX9_worn_16 rfl rfl
theorem txX9_worn {xs : List Int32} (l0 : Option Nat) (l1 : Int32) (l2 : Int32) (h : am_H) (a : Int32) (h2 : am_H) (e : fxX9_worn l0 l1 l2 h = some (a, h2)) : am_Ct xs mX9_worn 2 0 0 [am_R l0, am_I l1, am_I l2] h (fun v h3 => v = am_ci a ∧ h3 = h2) := am_meth okX9_worn (Nat.le_of_ble_eq_true rfl) rfl (sxX9_worn l0 l1 l2 h) e
theorem dX9_forget_0 : am_at cX9_forget 0 (.aload_n 0) 1 1 := by decide +kernel
theorem dX9_forget_1 : am_at cX9_forget 1 (.getfield 10) 3 4 := by decide +kernel
theorem dX9_forget_4 : am_at cX9_forget 4 (.getfield 214) 3 7 := by decide +kernel
theorem dX9_forget_7 : am_at cX9_forget 7 (.istore_n 1) 1 8 := by decide +kernel
theorem dX9_forget_8 : am_at cX9_forget 8 (.aload_n 0) 1 9 := by decide +kernel
theorem dX9_forget_9 : am_at cX9_forget 9 (.getfield 10) 3 12 := by decide +kernel
theorem dX9_forget_12 : am_at cX9_forget 12 (.iconst 0) 1 13 := by decide +kernel
theorem dX9_forget_13 : am_at cX9_forget 13 (.putfield 214) 3 16 := by decide +kernel
theorem dX9_forget_16 : am_at cX9_forget 16 (.iload_n 1) 1 17 := by decide +kernel
theorem dX9_forget_17 : am_at cX9_forget 17 (.ireturn) 1 18 := by decide +kernel
def fxX9_forget (l0 : Option Nat) (h : am_H) : Option (Int32 × am_H) := am_gd (am_ob h l0 9) (am_gd (am_ob h (am_gr h l0 0) 2) (am_lt (am_gi h (am_gr h l0 0) 7) (fun x1 => am_gd (am_ob h l0 9) (am_gd (am_ob h (am_gr h l0 0) 2) (am_lt (am_si h (am_gr h l0 0) 7 (0 : Int32)) (fun h2 => some (x1, h2)))))))
set_option maxRecDepth 100000 in
theorem sxX9_forget {xs : List Int32} (l0 : Option Nat) (h : am_H) : am_Sm xs am_ci mX9_forget 0 0 0 0 [some (am_R l0), none] [] h (fxX9_forget l0 h) := by
  unfold fxX9_forget
  refine am_aload_n dX9_forget_0 rfl ?_
  refine am_getR dX9_forget_1 fk_RX9_10 rfl ?_
  refine am_getI dX9_forget_4 fk_RX9_214 rfl ?_
  refine am_istore_n (LL := fun y9 => [some (am_R l0), some (am_I y9)]) dX9_forget_7 (by decide) (fun _ => rfl) (fun x1 => ?_)
  refine am_aload_n dX9_forget_8 rfl ?_
  refine am_getR dX9_forget_9 fk_RX9_10 rfl ?_
  refine am_iconst (v := 0) dX9_forget_12 (by decide) ?_
  refine am_putI dX9_forget_13 fk_RX9_214 ⟨_, rfl, Or.inl rfl⟩ rfl (fun h2 => ?_)
  refine am_iload_n dX9_forget_16 rfl ?_
  exact am_iret dX9_forget_17 rfl rfl
theorem txX9_forget {xs : List Int32} (l0 : Option Nat) (h : am_H) (a : Int32) (h2 : am_H) (e : fxX9_forget l0 h = some (a, h2)) : am_Ct xs mX9_forget 0 0 0 [am_R l0] h (fun v h3 => v = am_ci a ∧ h3 = h2) := am_meth okX9_forget (Nat.le_of_ble_eq_true rfl) rfl (sxX9_forget l0 h) e
theorem dX9_joins_0 : am_at cX9_joins 0 (.aload_n 0) 1 1 := by decide +kernel
theorem dX9_joins_1 : am_at cX9_joins 1 (.getfield 50) 3 4 := by decide +kernel
theorem dX9_joins_4 : am_at cX9_joins 4 (.aload_n 0) 1 5 := by decide +kernel
theorem dX9_joins_5 : am_at cX9_joins 5 (.getfield 10) 3 8 := by decide +kernel
theorem dX9_joins_8 : am_at cX9_joins 8 (.invokevirtual 217) 3 11 := by decide +kernel
theorem dX9_joins_11 : am_at cX9_joins 11 (.aload_n 0) 1 12 := by decide +kernel
theorem dX9_joins_12 : am_at cX9_joins 12 (.getfield 50) 3 15 := by decide +kernel
theorem dX9_joins_15 : am_at cX9_joins 15 (.getfield 220) 3 18 := by decide +kernel
theorem dX9_joins_18 : am_at cX9_joins 18 (.ireturn) 1 19 := by decide +kernel
def fxX9_joins (l0 : Option Nat) (h : am_H) : Option (Int32 × am_H) := am_gd (am_ob h l0 9) (am_gd (am_ob h l0 9) (am_gd (am_ob h (am_gr h l0 7) 4) (am_bd (fxX4_tally (am_gr h l0 7) (am_gr h l0 0) h) (fun _ h1 => am_gd (am_ob h1 l0 9) (am_gd (am_ob h1 (am_gr h1 l0 7) 4) (some ((am_gi h1 (am_gr h1 l0 7) 2), h1)))))))
set_option maxRecDepth 100000 in
theorem sxX9_joins {xs : List Int32} (l0 : Option Nat) (h : am_H) : am_Sm xs am_ci mX9_joins 2 0 0 0 [some (am_R l0)] [] h (fxX9_joins l0 h) := by
  unfold fxX9_joins
  refine am_aload_n dX9_joins_0 rfl ?_
  refine am_getR dX9_joins_1 fk_RX9_50 rfl ?_
  refine am_aload_n dX9_joins_4 rfl ?_
  refine am_getR dX9_joins_5 fk_RX9_10 rfl ?_
  refine am_callV (cvj := am_cu) (mtj := mX4_tally) (dj := 1) (nj := 1) (rcj := 0) (rsj := 0) (rc' := 0) (rs' := 0) (ci := 4) (st' := fun _ => []) ⟨_, rfl, rfl⟩ [am_R (am_gr h l0 0)] [] dX9_joins_8 okX4_tally lk_RX9_217 (fun zA zH zE => txX4_tally (am_gr h l0 7) (am_gr h l0 0) h zA zH zE) rfl (fun _ => rfl) (by decide) rfl (Nat.le_of_ble_eq_true rfl) (by decide) (by decide) (fun _ h1 => ?_)
  refine am_aload_n dX9_joins_11 rfl ?_
  refine am_getR dX9_joins_12 fk_RX9_50 rfl ?_
  refine am_getI dX9_joins_15 fk_RX9_220 rfl ?_
  exact am_iret dX9_joins_18 rfl rfl
theorem txX9_joins {xs : List Int32} (l0 : Option Nat) (h : am_H) (a : Int32) (h2 : am_H) (e : fxX9_joins l0 h = some (a, h2)) : am_Ct xs mX9_joins 2 0 0 [am_R l0] h (fun v h3 => v = am_ci a ∧ h3 = h2) := am_meth okX9_joins (Nat.le_of_ble_eq_true rfl) rfl (sxX9_joins l0 h) e
theorem dX9_sure_0 : am_at cX9_sure 0 (.iload_n 1) 1 1 := by decide +kernel
theorem dX9_sure_1 : am_at cX9_sure 1 (.invokestatic 208) 3 4 := by decide +kernel
theorem dX9_sure_4 : am_at cX9_sure 4 (.ifCond .ne 6) 3 7 := by decide +kernel
theorem dX9_sure_7 : am_at cX9_sure 7 (.ldc 84) 2 9 := by decide +kernel
theorem dX9_sure_9 : am_at cX9_sure 9 (.ireturn) 1 10 := by decide +kernel
theorem dX9_sure_10 : am_at cX9_sure 10 (.aload_n 0) 1 11 := by decide +kernel
theorem dX9_sure_11 : am_at cX9_sure 11 (.getfield 50) 3 14 := by decide +kernel
theorem dX9_sure_14 : am_at cX9_sure 14 (.aload_n 0) 1 15 := by decide +kernel
theorem dX9_sure_15 : am_at cX9_sure 15 (.getfield 10) 3 18 := by decide +kernel
theorem dX9_sure_18 : am_at cX9_sure 18 (.invokevirtual 217) 3 21 := by decide +kernel
theorem dX9_sure_21 : am_at cX9_sure 21 (.aload_n 0) 1 22 := by decide +kernel
theorem dX9_sure_22 : am_at cX9_sure 22 (.getfield 50) 3 25 := by decide +kernel
theorem dX9_sure_25 : am_at cX9_sure 25 (.iload_n 1) 1 26 := by decide +kernel
theorem dX9_sure_26 : am_at cX9_sure 26 (.invokevirtual 223) 3 29 := by decide +kernel
theorem dX9_sure_29 : am_at cX9_sure 29 (.ireturn) 1 30 := by decide +kernel
def fxX9_sure (l0 : Option Nat) (l1 : Int32) (h : am_H) : Option (Int32 × am_H) := am_bd (fxX9_isWord l1 h) (fun r1 h2 => if r1 = 0 then (some ((-1000000001 : Int32), h2)) else (am_gd (am_ob h2 l0 9) (am_gd (am_ob h2 l0 9) (am_gd (am_ob h2 (am_gr h2 l0 7) 4) (am_bd (fxX4_tally (am_gr h2 l0 7) (am_gr h2 l0 0) h2) (fun _ h3 => am_gd (am_ob h3 l0 9) (am_gd (am_ob h3 (am_gr h3 l0 7) 4) (am_bd (fxX4_meaningOf (am_gr h3 l0 7) l1 h3) (fun r4 h5 => some (r4, h5))))))))))
set_option maxRecDepth 100000 in
theorem sxX9_sure {xs : List Int32} (l0 : Option Nat) (l1 : Int32) (h : am_H) : am_Sm xs am_ci mX9_sure 2 0 0 0 [some (am_R l0), some (am_I l1)] [] h (fxX9_sure l0 l1 h) := by
  unfold fxX9_sure
  refine am_iload_n dX9_sure_0 rfl ?_
  refine am_callS (cvj := am_ci) (mtj := mX9_isWord) (dj := 1) (nj := 1) (rcj := 0) (rsj := 0) (rc' := 0) (rs' := 0) (st' := fun a9 => (am_I a9 :: [])) [am_I l1] [] dX9_sure_1 okX9_isWord lk_RX9_208 (fun zA zH zE => txX9_isWord l1 h zA zH zE) rfl (fun _ => rfl) (by decide) rfl (Nat.le_of_ble_eq_true rfl) (by decide) (by decide) (fun r1 h2 => ?_)
  refine am_if_ne (tgt := 10) dX9_sure_4 (by decide) (fun c6 => ?_) (fun c6 => ?_)
  · refine am_aload_n dX9_sure_10 rfl ?_
    refine am_getR dX9_sure_11 fk_RX9_50 rfl ?_
    refine am_aload_n dX9_sure_14 rfl ?_
    refine am_getR dX9_sure_15 fk_RX9_10 rfl ?_
    refine am_callV (cvj := am_cu) (mtj := mX4_tally) (dj := 1) (nj := 1) (rcj := 0) (rsj := 0) (rc' := 0) (rs' := 0) (ci := 4) (st' := fun _ => []) ⟨_, rfl, rfl⟩ [am_R (am_gr h2 l0 0)] [] dX9_sure_18 okX4_tally lk_RX9_217 (fun zA zH zE => txX4_tally (am_gr h2 l0 7) (am_gr h2 l0 0) h2 zA zH zE) rfl (fun _ => rfl) (by decide) rfl (Nat.le_of_ble_eq_true rfl) (by decide) (by decide) (fun _ h3 => ?_)
    refine am_aload_n dX9_sure_21 rfl ?_
    refine am_getR dX9_sure_22 fk_RX9_50 rfl ?_
    refine am_iload_n dX9_sure_25 rfl ?_
    refine am_callV (cvj := am_ci) (mtj := mX4_meaningOf) (dj := 0) (nj := 1) (rcj := 0) (rsj := 0) (rc' := 0) (rs' := 0) (ci := 4) (st' := fun a9 => (am_I a9 :: [])) ⟨_, rfl, rfl⟩ [am_I l1] [] dX9_sure_26 okX4_meaningOf lk_RX9_223 (fun zA zH zE => txX4_meaningOf (am_gr h3 l0 7) l1 h3 zA zH zE) rfl (fun _ => rfl) (by decide) rfl (Nat.le_of_ble_eq_true rfl) (by decide) (by decide) (fun r4 h5 => ?_)
    exact am_iret dX9_sure_29 rfl rfl
  refine am_ldc (v := (-1000000001)) dX9_sure_7 wd316 ?_
  exact am_iret dX9_sure_9 rfl rfl
theorem txX9_sure {xs : List Int32} (l0 : Option Nat) (l1 : Int32) (h : am_H) (a : Int32) (h2 : am_H) (e : fxX9_sure l0 l1 h = some (a, h2)) : am_Ct xs mX9_sure 2 0 0 [am_R l0, am_I l1] h (fun v h3 => v = am_ci a ∧ h3 = h2) := am_meth okX9_sure (Nat.le_of_ble_eq_true rfl) rfl (sxX9_sure l0 l1 h) e
theorem dX9_better_0 : am_at cX9_better 0 (.iload_n 1) 1 1 := by decide +kernel
theorem dX9_better_1 : am_at cX9_better 1 (.iconst 0) 1 2 := by decide +kernel
theorem dX9_better_2 : am_at cX9_better 2 (.iconst 1) 1 3 := by decide +kernel
theorem dX9_better_3 : am_at cX9_better 3 (.invokestatic 80) 3 6 := by decide +kernel
theorem dX9_better_6 : am_at cX9_better 6 (.ifCond .ne 6) 3 9 := by decide +kernel
theorem dX9_better_9 : am_at cX9_better 9 (.ldc 84) 2 11 := by decide +kernel
theorem dX9_better_11 : am_at cX9_better 11 (.ireturn) 1 12 := by decide +kernel
theorem dX9_better_12 : am_at cX9_better 12 (.aload_n 0) 1 13 := by decide +kernel
theorem dX9_better_13 : am_at cX9_better 13 (.getfield 50) 3 16 := by decide +kernel
theorem dX9_better_16 : am_at cX9_better 16 (.aload_n 0) 1 17 := by decide +kernel
theorem dX9_better_17 : am_at cX9_better 17 (.getfield 10) 3 20 := by decide +kernel
theorem dX9_better_20 : am_at cX9_better 20 (.invokevirtual 217) 3 23 := by decide +kernel
theorem dX9_better_23 : am_at cX9_better 23 (.aload_n 0) 1 24 := by decide +kernel
theorem dX9_better_24 : am_at cX9_better 24 (.getfield 50) 3 27 := by decide +kernel
theorem dX9_better_27 : am_at cX9_better 27 (.getfield 220) 3 30 := by decide +kernel
theorem dX9_better_30 : am_at cX9_better 30 (.ifCond .ne 6) 3 33 := by decide +kernel
theorem dX9_better_33 : am_at cX9_better 33 (.ldc 135) 2 35 := by decide +kernel
theorem dX9_better_35 : am_at cX9_better 35 (.ireturn) 1 36 := by decide +kernel
theorem dX9_better_36 : am_at cX9_better 36 (.aload_n 0) 1 37 := by decide +kernel
theorem dX9_better_37 : am_at cX9_better 37 (.getfield 50) 3 40 := by decide +kernel
theorem dX9_better_40 : am_at cX9_better 40 (.invokevirtual 226) 3 43 := by decide +kernel
theorem dX9_better_43 : am_at cX9_better 43 (.istore_n 2) 1 44 := by decide +kernel
theorem dX9_better_44 : am_at cX9_better 44 (.iload_n 1) 1 45 := by decide +kernel
theorem dX9_better_45 : am_at cX9_better 45 (.ifCond .ne 7) 3 48 := by decide +kernel
theorem dX9_better_48 : am_at cX9_better 48 (.iload_n 2) 1 49 := by decide +kernel
theorem dX9_better_49 : am_at cX9_better 49 (.goto 11) 3 52 := by decide +kernel
theorem dX9_better_52 : am_at cX9_better 52 (.aload_n 0) 1 53 := by decide +kernel
theorem dX9_better_53 : am_at cX9_better 53 (.getfield 50) 3 56 := by decide +kernel
theorem dX9_better_56 : am_at cX9_better 56 (.iload_n 2) 1 57 := by decide +kernel
theorem dX9_better_57 : am_at cX9_better 57 (.invokevirtual 229) 3 60 := by decide +kernel
theorem dX9_better_60 : am_at cX9_better 60 (.ireturn) 1 61 := by decide +kernel
def fxX9_better (l0 : Option Nat) (l1 : Int32) (h : am_H) : Option (Int32 × am_H) := am_bd (fxX9_within l1 (0 : Int32) (1 : Int32) h) (fun r1 h2 => if r1 = 0 then (some ((-1000000001 : Int32), h2)) else (am_gd (am_ob h2 l0 9) (am_gd (am_ob h2 l0 9) (am_gd (am_ob h2 (am_gr h2 l0 7) 4) (am_bd (fxX4_tally (am_gr h2 l0 7) (am_gr h2 l0 0) h2) (fun _ h3 => am_gd (am_ob h3 l0 9) (am_gd (am_ob h3 (am_gr h3 l0 7) 4) (if (am_gi h3 (am_gr h3 l0 7) 2) = 0 then (some ((-1000000005 : Int32), h3)) else (am_gd (am_ob h3 l0 9) (am_gd (am_ob h3 (am_gr h3 l0 7) 4) (am_bd (fxX4_betterTold (am_gr h3 l0 7) h3) (fun r4 h5 => am_lt r4 (fun x6 => if l1 = 0 then (some (x6, h5)) else (am_gd (am_ob h5 l0 9) (am_gd (am_ob h5 (am_gr h5 l0 7) 4) (am_bd (fxX4_worstOf (am_gr h5 l0 7) x6 h5) (fun r7 h8 => some (r7, h8))))))))))))))))))
set_option maxRecDepth 100000 in
theorem sxX9_better {xs : List Int32} (l0 : Option Nat) (l1 : Int32) (h : am_H) : am_Sm xs am_ci mX9_better 3 0 0 0 [some (am_R l0), some (am_I l1), none] [] h (fxX9_better l0 l1 h) := by
  unfold fxX9_better
  refine am_iload_n dX9_better_0 rfl ?_
  refine am_iconst (v := 0) dX9_better_1 (by decide) ?_
  refine am_iconst (v := 1) dX9_better_2 (by decide) ?_
  refine am_callS (cvj := am_ci) (mtj := mX9_within) (dj := 0) (nj := 3) (rcj := 0) (rsj := 0) (rc' := 0) (rs' := 0) (st' := fun a9 => (am_I a9 :: [])) [am_I l1, am_I (0 : Int32), am_I (1 : Int32)] [] dX9_better_3 okX9_within lk_RX9_80 (fun zA zH zE => txX9_within l1 (0 : Int32) (1 : Int32) h zA zH zE) rfl (fun _ => rfl) (by decide) rfl (Nat.le_of_ble_eq_true rfl) (by decide) (by decide) (fun r1 h2 => ?_)
  refine am_if_ne (tgt := 12) dX9_better_6 (by decide) (fun c11 => ?_) (fun c11 => ?_)
  · refine am_aload_n dX9_better_12 rfl ?_
    refine am_getR dX9_better_13 fk_RX9_50 rfl ?_
    refine am_aload_n dX9_better_16 rfl ?_
    refine am_getR dX9_better_17 fk_RX9_10 rfl ?_
    refine am_callV (cvj := am_cu) (mtj := mX4_tally) (dj := 1) (nj := 1) (rcj := 0) (rsj := 0) (rc' := 0) (rs' := 0) (ci := 4) (st' := fun _ => []) ⟨_, rfl, rfl⟩ [am_R (am_gr h2 l0 0)] [] dX9_better_20 okX4_tally lk_RX9_217 (fun zA zH zE => txX4_tally (am_gr h2 l0 7) (am_gr h2 l0 0) h2 zA zH zE) rfl (fun _ => rfl) (by decide) rfl (Nat.le_of_ble_eq_true rfl) (by decide) (by decide) (fun _ h3 => ?_)
    refine am_aload_n dX9_better_23 rfl ?_
    refine am_getR dX9_better_24 fk_RX9_50 rfl ?_
    refine am_getI dX9_better_27 fk_RX9_220 rfl ?_
    refine am_if_ne (tgt := 36) dX9_better_30 (by decide) (fun c10 => ?_) (fun c10 => ?_)
    · refine am_aload_n dX9_better_36 rfl ?_
      refine am_getR dX9_better_37 fk_RX9_50 rfl ?_
      refine am_callV (cvj := am_ci) (mtj := mX4_betterTold) (dj := 2) (nj := 0) (rcj := 0) (rsj := 0) (rc' := 0) (rs' := 0) (ci := 4) (st' := fun a9 => (am_I a9 :: [])) ⟨_, rfl, rfl⟩ [] [] dX9_better_40 okX4_betterTold lk_RX9_226 (fun zA zH zE => txX4_betterTold (am_gr h3 l0 7) h3 zA zH zE) rfl (fun _ => rfl) (by decide) rfl (Nat.le_of_ble_eq_true rfl) (by decide) (by decide) (fun r4 h5 => ?_)
      refine am_istore_n (LL := fun y9 => [some (am_R l0), some (am_I l1), some (am_I y9)]) dX9_better_43 (by decide) (fun _ => rfl) (fun x6 => ?_)
      refine am_iload_n dX9_better_44 rfl ?_
      refine am_if_ne (tgt := 52) dX9_better_45 (by decide) (fun c9 => ?_) (fun c9 => ?_)
      · refine am_aload_n dX9_better_52 rfl ?_
        refine am_getR dX9_better_53 fk_RX9_50 rfl ?_
        refine am_iload_n dX9_better_56 rfl ?_
        refine am_callV (cvj := am_ci) (mtj := mX4_worstOf) (dj := 1) (nj := 1) (rcj := 0) (rsj := 0) (rc' := 0) (rs' := 0) (ci := 4) (st' := fun a9 => (am_I a9 :: [])) ⟨_, rfl, rfl⟩ [am_I x6] [] dX9_better_57 okX4_worstOf lk_RX9_229 (fun zA zH zE => txX4_worstOf (am_gr h5 l0 7) x6 h5 zA zH zE) rfl (fun _ => rfl) (by decide) rfl (Nat.le_of_ble_eq_true rfl) (by decide) (by decide) (fun r7 h8 => ?_)
        exact am_iret dX9_better_60 rfl rfl
      refine am_iload_n dX9_better_48 rfl ?_
      refine am_goto (tgt := 60) dX9_better_49 (by decide) ?_
      exact am_iret dX9_better_60 rfl rfl
    refine am_ldc (v := (-1000000005)) dX9_better_33 wd429 ?_
    exact am_iret dX9_better_35 rfl rfl
  refine am_ldc (v := (-1000000001)) dX9_better_9 wd316 ?_
  exact am_iret dX9_better_11 rfl rfl
theorem txX9_better {xs : List Int32} (l0 : Option Nat) (l1 : Int32) (h : am_H) (a : Int32) (h2 : am_H) (e : fxX9_better l0 l1 h = some (a, h2)) : am_Ct xs mX9_better 3 0 0 [am_R l0, am_I l1] h (fun v h3 => v = am_ci a ∧ h3 = h2) := am_meth okX9_better (Nat.le_of_ble_eq_true rfl) rfl (sxX9_better l0 l1 h) e
theorem dX9_feed_0 : am_at cX9_feed 0 (.aload_n 0) 1 1 := by decide +kernel
theorem dX9_feed_1 : am_at cX9_feed 1 (.getfield 36) 3 4 := by decide +kernel
theorem dX9_feed_4 : am_at cX9_feed 4 (.getfield 232) 3 7 := by decide +kernel
theorem dX9_feed_7 : am_at cX9_feed 7 (.bipush 12) 2 9 := by decide +kernel
theorem dX9_feed_9 : am_at cX9_feed 9 (.iadd) 1 10 := by decide +kernel
theorem dX9_feed_10 : am_at cX9_feed 10 (.bipush 96) 2 12 := by decide +kernel
theorem dX9_feed_12 : am_at cX9_feed 12 (.if_icmp .le 6) 3 15 := by decide +kernel
theorem dX9_feed_15 : am_at cX9_feed 15 (.ldc 235) 2 17 := by decide +kernel
theorem dX9_feed_17 : am_at cX9_feed 17 (.ireturn) 1 18 := by decide +kernel
theorem dX9_feed_18 : am_at cX9_feed 18 (.aload_n 0) 1 19 := by decide +kernel
theorem dX9_feed_19 : am_at cX9_feed 19 (.getfield 36) 3 22 := by decide +kernel
theorem dX9_feed_22 : am_at cX9_feed 22 (.iload_n 1) 1 23 := by decide +kernel
theorem dX9_feed_23 : am_at cX9_feed 23 (.invokevirtual 236) 3 26 := by decide +kernel
theorem dX9_feed_26 : am_at cX9_feed 26 (.aload_n 0) 1 27 := by decide +kernel
theorem dX9_feed_27 : am_at cX9_feed 27 (.getfield 36) 3 30 := by decide +kernel
theorem dX9_feed_30 : am_at cX9_feed 30 (.iload_n 2) 1 31 := by decide +kernel
theorem dX9_feed_31 : am_at cX9_feed 31 (.invokevirtual 236) 3 34 := by decide +kernel
theorem dX9_feed_34 : am_at cX9_feed 34 (.aload_n 0) 1 35 := by decide +kernel
theorem dX9_feed_35 : am_at cX9_feed 35 (.getfield 36) 3 38 := by decide +kernel
theorem dX9_feed_38 : am_at cX9_feed 38 (.iload_n 3) 1 39 := by decide +kernel
theorem dX9_feed_39 : am_at cX9_feed 39 (.invokevirtual 236) 3 42 := by decide +kernel
theorem dX9_feed_42 : am_at cX9_feed 42 (.aload_n 0) 1 43 := by decide +kernel
theorem dX9_feed_43 : am_at cX9_feed 43 (.getfield 36) 3 46 := by decide +kernel
theorem dX9_feed_46 : am_at cX9_feed 46 (.getfield 232) 3 49 := by decide +kernel
theorem dX9_feed_49 : am_at cX9_feed 49 (.ireturn) 1 50 := by decide +kernel
def fxX9_feed (l0 : Option Nat) (l1 : Int32) (l2 : Int32) (l3 : Int32) (h : am_H) : Option (Int32 × am_H) := am_gd (am_ob h l0 9) (am_gd (am_ob h (am_gr h l0 5) 8) (if ((am_gi h (am_gr h l0 5) 1) + (12 : Int32)) ≤ (96 : Int32) then (am_gd (am_ob h l0 9) (am_gd (am_ob h (am_gr h l0 5) 8) (am_bd (fxX8_addBytes (am_gr h l0 5) l1 h) (fun _ h1 => am_gd (am_ob h1 l0 9) (am_gd (am_ob h1 (am_gr h1 l0 5) 8) (am_bd (fxX8_addBytes (am_gr h1 l0 5) l2 h1) (fun _ h2 => am_gd (am_ob h2 l0 9) (am_gd (am_ob h2 (am_gr h2 l0 5) 8) (am_bd (fxX8_addBytes (am_gr h2 l0 5) l3 h2) (fun _ h3 => am_gd (am_ob h3 l0 9) (am_gd (am_ob h3 (am_gr h3 l0 5) 8) (some ((am_gi h3 (am_gr h3 l0 5) 1), h3))))))))))))) else (some ((-1000000003 : Int32), h))))
set_option maxRecDepth 100000 in
theorem sxX9_feed {xs : List Int32} (l0 : Option Nat) (l1 : Int32) (l2 : Int32) (l3 : Int32) (h : am_H) : am_Sm xs am_ci mX9_feed 1 0 0 0 [some (am_R l0), some (am_I l1), some (am_I l2), some (am_I l3)] [] h (fxX9_feed l0 l1 l2 l3 h) := by
  unfold fxX9_feed
  refine am_aload_n dX9_feed_0 rfl ?_
  refine am_getR dX9_feed_1 fk_RX9_36 rfl ?_
  refine am_getI dX9_feed_4 fk_RX9_232 rfl ?_
  refine am_bipush (v := 12) dX9_feed_7 (by decide) ?_
  refine am_iadd dX9_feed_9 ?_
  refine am_bipush (v := 96) dX9_feed_10 (by decide) ?_
  refine am_icmp_le (tgt := 18) dX9_feed_12 (by decide) (fun c4 => ?_) (fun c4 => ?_)
  · refine am_aload_n dX9_feed_18 rfl ?_
    refine am_getR dX9_feed_19 fk_RX9_36 rfl ?_
    refine am_iload_n dX9_feed_22 rfl ?_
    refine am_callV (cvj := am_cu) (mtj := mX8_addBytes) (dj := 0) (nj := 1) (rcj := 0) (rsj := 0) (rc' := 0) (rs' := 0) (ci := 8) (st' := fun _ => []) ⟨_, rfl, rfl⟩ [am_I l1] [] dX9_feed_23 okX8_addBytes lk_RX9_236 (fun zA zH zE => txX8_addBytes (am_gr h l0 5) l1 h zA zH zE) rfl (fun _ => rfl) (by decide) rfl (Nat.le_of_ble_eq_true rfl) (by decide) (by decide) (fun _ h1 => ?_)
    refine am_aload_n dX9_feed_26 rfl ?_
    refine am_getR dX9_feed_27 fk_RX9_36 rfl ?_
    refine am_iload_n dX9_feed_30 rfl ?_
    refine am_callV (cvj := am_cu) (mtj := mX8_addBytes) (dj := 0) (nj := 1) (rcj := 0) (rsj := 0) (rc' := 0) (rs' := 0) (ci := 8) (st' := fun _ => []) ⟨_, rfl, rfl⟩ [am_I l2] [] dX9_feed_31 okX8_addBytes lk_RX9_236 (fun zA zH zE => txX8_addBytes (am_gr h1 l0 5) l2 h1 zA zH zE) rfl (fun _ => rfl) (by decide) rfl (Nat.le_of_ble_eq_true rfl) (by decide) (by decide) (fun _ h2 => ?_)
    refine am_aload_n dX9_feed_34 rfl ?_
    refine am_getR dX9_feed_35 fk_RX9_36 rfl ?_
    refine am_iload_n dX9_feed_38 rfl ?_
    refine am_callV (cvj := am_cu) (mtj := mX8_addBytes) (dj := 0) (nj := 1) (rcj := 0) (rsj := 0) (rc' := 0) (rs' := 0) (ci := 8) (st' := fun _ => []) ⟨_, rfl, rfl⟩ [am_I l3] [] dX9_feed_39 okX8_addBytes lk_RX9_236 (fun zA zH zE => txX8_addBytes (am_gr h2 l0 5) l3 h2 zA zH zE) rfl (fun _ => rfl) (by decide) rfl (Nat.le_of_ble_eq_true rfl) (by decide) (by decide) (fun _ h3 => ?_)
    refine am_aload_n dX9_feed_42 rfl ?_
    refine am_getR dX9_feed_43 fk_RX9_36 rfl ?_
    refine am_getI dX9_feed_46 fk_RX9_232 rfl ?_
    exact am_iret dX9_feed_49 rfl rfl
  refine am_ldc (v := (-1000000003)) dX9_feed_15 wd631 ?_
  exact am_iret dX9_feed_17 rfl rfl
theorem txX9_feed {xs : List Int32} (l0 : Option Nat) (l1 : Int32) (l2 : Int32) (l3 : Int32) (h : am_H) (a : Int32) (h2 : am_H) (e : fxX9_feed l0 l1 l2 l3 h = some (a, h2)) : am_Ct xs mX9_feed 1 0 0 [am_R l0, am_I l1, am_I l2, am_I l3] h (fun v h3 => v = am_ci a ∧ h3 = h2) := am_meth okX9_feed (Nat.le_of_ble_eq_true rfl) rfl (sxX9_feed l0 l1 l2 l3 h) e
theorem dX9_trim_0 : am_at cX9_trim 0 (.iload_n 1) 1 1 := by decide +kernel
theorem dX9_trim_1 : am_at cX9_trim 1 (.iconst 0) 1 2 := by decide +kernel
theorem dX9_trim_2 : am_at cX9_trim 2 (.aload_n 0) 1 3 := by decide +kernel
theorem dX9_trim_3 : am_at cX9_trim 3 (.getfield 36) 3 6 := by decide +kernel
theorem dX9_trim_6 : am_at cX9_trim 6 (.getfield 232) 3 9 := by decide +kernel
theorem dX9_trim_9 : am_at cX9_trim 9 (.invokestatic 80) 3 12 := by decide +kernel
theorem dX9_trim_12 : am_at cX9_trim 12 (.ifCond .ne 6) 3 15 := by decide +kernel
theorem dX9_trim_15 : am_at cX9_trim 15 (.ldc 84) 2 17 := by decide +kernel
theorem dX9_trim_17 : am_at cX9_trim 17 (.ireturn) 1 18 := by decide +kernel
theorem dX9_trim_18 : am_at cX9_trim 18 (.aload_n 0) 1 19 := by decide +kernel
theorem dX9_trim_19 : am_at cX9_trim 19 (.getfield 36) 3 22 := by decide +kernel
theorem dX9_trim_22 : am_at cX9_trim 22 (.iload_n 1) 1 23 := by decide +kernel
theorem dX9_trim_23 : am_at cX9_trim 23 (.putfield 232) 3 26 := by decide +kernel
theorem dX9_trim_26 : am_at cX9_trim 26 (.iload_n 1) 1 27 := by decide +kernel
theorem dX9_trim_27 : am_at cX9_trim 27 (.ireturn) 1 28 := by decide +kernel
def fxX9_trim (l0 : Option Nat) (l1 : Int32) (h : am_H) : Option (Int32 × am_H) := am_gd (am_ob h l0 9) (am_gd (am_ob h (am_gr h l0 5) 8) (am_bd (fxX9_within l1 (0 : Int32) (am_gi h (am_gr h l0 5) 1) h) (fun r1 h2 => if r1 = 0 then (some ((-1000000001 : Int32), h2)) else (am_gd (am_ob h2 l0 9) (am_gd (am_ob h2 (am_gr h2 l0 5) 8) (am_lt (am_si h2 (am_gr h2 l0 5) 1 l1) (fun h3 => some (l1, h3))))))))
set_option maxRecDepth 100000 in
theorem sxX9_trim {xs : List Int32} (l0 : Option Nat) (l1 : Int32) (h : am_H) : am_Sm xs am_ci mX9_trim 1 0 0 0 [some (am_R l0), some (am_I l1)] [] h (fxX9_trim l0 l1 h) := by
  unfold fxX9_trim
  refine am_iload_n dX9_trim_0 rfl ?_
  refine am_iconst (v := 0) dX9_trim_1 (by decide) ?_
  refine am_aload_n dX9_trim_2 rfl ?_
  refine am_getR dX9_trim_3 fk_RX9_36 rfl ?_
  refine am_getI dX9_trim_6 fk_RX9_232 rfl ?_
  refine am_callS (cvj := am_ci) (mtj := mX9_within) (dj := 0) (nj := 3) (rcj := 0) (rsj := 0) (rc' := 0) (rs' := 0) (st' := fun a9 => (am_I a9 :: [])) [am_I l1, am_I (0 : Int32), am_I (am_gi h (am_gr h l0 5) 1)] [] dX9_trim_9 okX9_within lk_RX9_80 (fun zA zH zE => txX9_within l1 (0 : Int32) (am_gi h (am_gr h l0 5) 1) h zA zH zE) rfl (fun _ => rfl) (by decide) rfl (Nat.le_of_ble_eq_true rfl) (by decide) (by decide) (fun r1 h2 => ?_)
  refine am_if_ne (tgt := 18) dX9_trim_12 (by decide) (fun c4 => ?_) (fun c4 => ?_)
  · refine am_aload_n dX9_trim_18 rfl ?_
    refine am_getR dX9_trim_19 fk_RX9_36 rfl ?_
    refine am_iload_n dX9_trim_22 rfl ?_
    refine am_putI dX9_trim_23 fk_RX9_232 ⟨_, rfl, Or.inl rfl⟩ rfl (fun h3 => ?_)
    refine am_iload_n dX9_trim_26 rfl ?_
    exact am_iret dX9_trim_27 rfl rfl
  refine am_ldc (v := (-1000000001)) dX9_trim_15 wd316 ?_
  exact am_iret dX9_trim_17 rfl rfl
theorem txX9_trim {xs : List Int32} (l0 : Option Nat) (l1 : Int32) (h : am_H) (a : Int32) (h2 : am_H) (e : fxX9_trim l0 l1 h = some (a, h2)) : am_Ct xs mX9_trim 1 0 0 [am_R l0, am_I l1] h (fun v h3 => v = am_ci a ∧ h3 = h2) := am_meth okX9_trim (Nat.le_of_ble_eq_true rfl) rfl (sxX9_trim l0 l1 h) e
theorem dX9_textTold_0 : am_at cX9_textTold 0 (.iload_n 1) 1 1 := by decide +kernel
theorem dX9_textTold_1 : am_at cX9_textTold 1 (.iconst 0) 1 2 := by decide +kernel
theorem dX9_textTold_2 : am_at cX9_textTold 2 (.aload_n 0) 1 3 := by decide +kernel
theorem dX9_textTold_3 : am_at cX9_textTold 3 (.getfield 10) 3 6 := by decide +kernel
theorem dX9_textTold_6 : am_at cX9_textTold 6 (.getfield 240) 3 9 := by decide +kernel
theorem dX9_textTold_9 : am_at cX9_textTold 9 (.iconst 1) 1 10 := by decide +kernel
theorem dX9_textTold_10 : am_at cX9_textTold 10 (.isub) 1 11 := by decide +kernel
theorem dX9_textTold_11 : am_at cX9_textTold 11 (.invokestatic 80) 3 14 := by decide +kernel
theorem dX9_textTold_14 : am_at cX9_textTold 14 (.ifCond .eq 12) 3 17 := by decide +kernel
theorem dX9_textTold_17 : am_at cX9_textTold 17 (.iload_n 2) 1 18 := by decide +kernel
theorem dX9_textTold_18 : am_at cX9_textTold 18 (.iconst 0) 1 19 := by decide +kernel
theorem dX9_textTold_19 : am_at cX9_textTold 19 (.iconst 1) 1 20 := by decide +kernel
theorem dX9_textTold_20 : am_at cX9_textTold 20 (.invokestatic 80) 3 23 := by decide +kernel
theorem dX9_textTold_23 : am_at cX9_textTold 23 (.ifCond .ne 6) 3 26 := by decide +kernel
theorem dX9_textTold_26 : am_at cX9_textTold 26 (.ldc 84) 2 28 := by decide +kernel
theorem dX9_textTold_28 : am_at cX9_textTold 28 (.ireturn) 1 29 := by decide +kernel
theorem dX9_textTold_29 : am_at cX9_textTold 29 (.aload_n 0) 1 30 := by decide +kernel
theorem dX9_textTold_30 : am_at cX9_textTold 30 (.getfield 29) 3 33 := by decide +kernel
theorem dX9_textTold_33 : am_at cX9_textTold 33 (.iload_n 1) 1 34 := by decide +kernel
theorem dX9_textTold_34 : am_at cX9_textTold 34 (.invokevirtual 243) 3 37 := by decide +kernel
theorem dX9_textTold_37 : am_at cX9_textTold 37 (.astore_n 3) 1 38 := by decide +kernel
theorem dX9_textTold_38 : am_at cX9_textTold 38 (.iload_n 2) 1 39 := by decide +kernel
theorem dX9_textTold_39 : am_at cX9_textTold 39 (.ifCond .ne 10) 3 42 := by decide +kernel
theorem dX9_textTold_42 : am_at cX9_textTold 42 (.aload_n 3) 1 43 := by decide +kernel
theorem dX9_textTold_43 : am_at cX9_textTold 43 (.getfield 251) 3 46 := by decide +kernel
theorem dX9_textTold_46 : am_at cX9_textTold 46 (.goto 7) 3 49 := by decide +kernel
theorem dX9_textTold_49 : am_at cX9_textTold 49 (.aload_n 3) 1 50 := by decide +kernel
theorem dX9_textTold_50 : am_at cX9_textTold 50 (.getfield 259) 3 53 := by decide +kernel
theorem dX9_textTold_53 : am_at cX9_textTold 53 (.ireturn) 1 54 := by decide +kernel
def fxX9_textTold (l0 : Option Nat) (l1 : Int32) (l2 : Int32) (h : am_H) : Option (Int32 × am_H) := am_gd (am_ob h l0 9) (am_gd (am_ob h (am_gr h l0 0) 2) (am_bd (fxX9_within l1 (0 : Int32) ((am_gi h (am_gr h l0 0) 8) - (1 : Int32)) h) (fun r1 h2 => if r1 = 0 then (some ((-1000000001 : Int32), h2)) else (am_bd (fxX9_within l2 (0 : Int32) (1 : Int32) h2) (fun r3 h4 => if r3 = 0 then (some ((-1000000001 : Int32), h4)) else (am_gd (am_ob h4 l0 9) (am_gd (am_ob h4 (am_gr h4 l0 4) 0) (am_bd (fxX0_lawOf (am_gr h4 l0 4) l1 h4) (fun r5 h6 => am_lt r5 (fun q7 => if l2 = 0 then (am_gd (am_ob h6 q7 3) (some ((am_gi h6 q7 0), h6))) else (am_gd (am_ob h6 q7 3) (some ((am_gi h6 q7 1), h6)))))))))))))
set_option maxRecDepth 100000 in
theorem sxX9_textTold {xs : List Int32} (l0 : Option Nat) (l1 : Int32) (l2 : Int32) (h : am_H) : am_Sm xs am_ci mX9_textTold 2 0 0 0 [some (am_R l0), some (am_I l1), some (am_I l2), none] [] h (fxX9_textTold l0 l1 l2 h) := by
  unfold fxX9_textTold
  refine am_iload_n dX9_textTold_0 rfl ?_
  refine am_iconst (v := 0) dX9_textTold_1 (by decide) ?_
  refine am_aload_n dX9_textTold_2 rfl ?_
  refine am_getR dX9_textTold_3 fk_RX9_10 rfl ?_
  refine am_getI dX9_textTold_6 fk_RX9_240 rfl ?_
  refine am_iconst (v := 1) dX9_textTold_9 (by decide) ?_
  refine am_isub dX9_textTold_10 ?_
  refine am_callS (cvj := am_ci) (mtj := mX9_within) (dj := 0) (nj := 3) (rcj := 0) (rsj := 0) (rc' := 0) (rs' := 0) (st' := fun a9 => (am_I a9 :: [])) [am_I l1, am_I (0 : Int32), am_I ((am_gi h (am_gr h l0 0) 8) - (1 : Int32))] [] dX9_textTold_11 okX9_within lk_RX9_80 (fun zA zH zE => txX9_within l1 (0 : Int32) ((am_gi h (am_gr h l0 0) 8) - (1 : Int32)) h zA zH zE) rfl (fun _ => rfl) (by decide) rfl (Nat.le_of_ble_eq_true rfl) (by decide) (by decide) (fun r1 h2 => ?_)
  refine am_if_eq (tgt := 26) dX9_textTold_14 (by decide) (fun c10 => ?_) (fun c10 => ?_)
  · refine am_ldc (v := (-1000000001)) dX9_textTold_26 wd316 ?_
    exact am_iret dX9_textTold_28 rfl rfl
  refine am_iload_n dX9_textTold_17 rfl ?_
  refine am_iconst (v := 0) dX9_textTold_18 (by decide) ?_
  refine am_iconst (v := 1) dX9_textTold_19 (by decide) ?_
  refine am_callS (cvj := am_ci) (mtj := mX9_within) (dj := 0) (nj := 3) (rcj := 0) (rsj := 0) (rc' := 0) (rs' := 0) (st' := fun a9 => (am_I a9 :: [])) [am_I l2, am_I (0 : Int32), am_I (1 : Int32)] [] dX9_textTold_20 okX9_within lk_RX9_80 (fun zA zH zE => txX9_within l2 (0 : Int32) (1 : Int32) h2 zA zH zE) rfl (fun _ => rfl) (by decide) rfl (Nat.le_of_ble_eq_true rfl) (by decide) (by decide) (fun r3 h4 => ?_)
  refine am_if_ne (tgt := 29) dX9_textTold_23 (by decide) (fun c9 => ?_) (fun c9 => ?_)
  · refine am_aload_n dX9_textTold_29 rfl ?_
    refine am_getR dX9_textTold_30 fk_RX9_29 rfl ?_
    refine am_iload_n dX9_textTold_33 rfl ?_
    refine am_callV (cvj := am_cr) (mtj := mX0_lawOf) (dj := 1) (nj := 1) (rcj := 0) (rsj := 0) (rc' := 0) (rs' := 0) (ci := 0) (st' := fun a9 => (am_R a9 :: [])) ⟨_, rfl, rfl⟩ [am_I l1] [] dX9_textTold_34 okX0_lawOf lk_RX9_243 (fun zA zH zE => txX0_lawOf (am_gr h4 l0 4) l1 h4 zA zH zE) rfl (fun _ => rfl) (by decide) rfl (Nat.le_of_ble_eq_true rfl) (by decide) (by decide) (fun r5 h6 => ?_)
    refine am_astore_n (LL := fun y9 => [some (am_R l0), some (am_I l1), some (am_I l2), some (am_R y9)]) dX9_textTold_37 (by decide) (fun _ => rfl) (fun q7 => ?_)
    refine am_iload_n dX9_textTold_38 rfl ?_
    refine am_if_ne (tgt := 49) dX9_textTold_39 (by decide) (fun c8 => ?_) (fun c8 => ?_)
    · refine am_aload_n dX9_textTold_49 rfl ?_
      refine am_getI dX9_textTold_50 fk_RX9_259 rfl ?_
      exact am_iret dX9_textTold_53 rfl rfl
    refine am_aload_n dX9_textTold_42 rfl ?_
    refine am_getI dX9_textTold_43 fk_RX9_251 rfl ?_
    refine am_goto (tgt := 53) dX9_textTold_46 (by decide) ?_
    exact am_iret dX9_textTold_53 rfl rfl
  refine am_ldc (v := (-1000000001)) dX9_textTold_26 wd316 ?_
  exact am_iret dX9_textTold_28 rfl rfl
theorem txX9_textTold {xs : List Int32} (l0 : Option Nat) (l1 : Int32) (l2 : Int32) (h : am_H) (a : Int32) (h2 : am_H) (e : fxX9_textTold l0 l1 l2 h = some (a, h2)) : am_Ct xs mX9_textTold 2 0 0 [am_R l0, am_I l1, am_I l2] h (fun v h3 => v = am_ci a ∧ h3 = h2) := am_meth okX9_textTold (Nat.le_of_ble_eq_true rfl) rfl (sxX9_textTold l0 l1 l2 h) e
theorem dX9_why_0 : am_at cX9_why 0 (.iload_n 1) 1 1 := by decide +kernel
theorem dX9_why_1 : am_at cX9_why 1 (.iconst 0) 1 2 := by decide +kernel
theorem dX9_why_2 : am_at cX9_why 2 (.iconst 2) 1 3 := by decide +kernel
theorem dX9_why_3 : am_at cX9_why 3 (.invokestatic 80) 3 6 := by decide +kernel
theorem dX9_why_6 : am_at cX9_why 6 (.ifCond .ne 6) 3 9 := by decide +kernel
theorem dX9_why_9 : am_at cX9_why 9 (.ldc 84) 2 11 := by decide +kernel
theorem dX9_why_11 : am_at cX9_why 11 (.ireturn) 1 12 := by decide +kernel
theorem dX9_why_12 : am_at cX9_why 12 (.aload_n 0) 1 13 := by decide +kernel
theorem dX9_why_13 : am_at cX9_why 13 (.getfield 10) 3 16 := by decide +kernel
theorem dX9_why_16 : am_at cX9_why 16 (.getfield 202) 3 19 := by decide +kernel
theorem dX9_why_19 : am_at cX9_why 19 (.iload_n 1) 1 20 := by decide +kernel
theorem dX9_why_20 : am_at cX9_why 20 (.iaload) 1 21 := by decide +kernel
theorem dX9_why_21 : am_at cX9_why 21 (.istore_n 2) 1 22 := by decide +kernel
theorem dX9_why_22 : am_at cX9_why 22 (.iload_n 2) 1 23 := by decide +kernel
theorem dX9_why_23 : am_at cX9_why 23 (.iconst (-1)) 1 24 := by decide +kernel
theorem dX9_why_24 : am_at cX9_why 24 (.if_icmp .ne 8) 3 27 := by decide +kernel
theorem dX9_why_27 : am_at cX9_why 27 (.ldc 135) 2 29 := by decide +kernel
theorem dX9_why_29 : am_at cX9_why 29 (.goto 4) 3 32 := by decide +kernel
theorem dX9_why_32 : am_at cX9_why 32 (.iload_n 2) 1 33 := by decide +kernel
theorem dX9_why_33 : am_at cX9_why 33 (.ireturn) 1 34 := by decide +kernel
def fxX9_why (l0 : Option Nat) (l1 : Int32) (h : am_H) : Option (Int32 × am_H) := am_bd (fxX9_within l1 (0 : Int32) (2 : Int32) h) (fun r1 h2 => if r1 = 0 then (some ((-1000000001 : Int32), h2)) else (am_gd (am_ob h2 l0 9) (am_gd (am_ob h2 (am_gr h2 l0 0) 2) (am_gd (am_ix h2 (am_gr h2 (am_gr h2 l0 0) 9) 0 l1) (am_lt (am_gi h2 (am_gr h2 (am_gr h2 l0 0) 9) l1.toNatClampNeg) (fun x3 => if x3 = (-1 : Int32) then (some ((-1000000005 : Int32), h2)) else (some (x3, h2))))))))
set_option maxRecDepth 100000 in
theorem sxX9_why {xs : List Int32} (l0 : Option Nat) (l1 : Int32) (h : am_H) : am_Sm xs am_ci mX9_why 1 0 0 0 [some (am_R l0), some (am_I l1), none] [] h (fxX9_why l0 l1 h) := by
  unfold fxX9_why
  refine am_iload_n dX9_why_0 rfl ?_
  refine am_iconst (v := 0) dX9_why_1 (by decide) ?_
  refine am_iconst (v := 2) dX9_why_2 (by decide) ?_
  refine am_callS (cvj := am_ci) (mtj := mX9_within) (dj := 0) (nj := 3) (rcj := 0) (rsj := 0) (rc' := 0) (rs' := 0) (st' := fun a9 => (am_I a9 :: [])) [am_I l1, am_I (0 : Int32), am_I (2 : Int32)] [] dX9_why_3 okX9_within lk_RX9_80 (fun zA zH zE => txX9_within l1 (0 : Int32) (2 : Int32) h zA zH zE) rfl (fun _ => rfl) (by decide) rfl (Nat.le_of_ble_eq_true rfl) (by decide) (by decide) (fun r1 h2 => ?_)
  refine am_if_ne (tgt := 12) dX9_why_6 (by decide) (fun c5 => ?_) (fun c5 => ?_)
  · refine am_aload_n dX9_why_12 rfl ?_
    refine am_getR dX9_why_13 fk_RX9_10 rfl ?_
    refine am_getR dX9_why_16 fk_RX9_202 rfl ?_
    refine am_iload_n dX9_why_19 rfl ?_
    refine am_iald dX9_why_20 ?_
    refine am_istore_n (LL := fun y9 => [some (am_R l0), some (am_I l1), some (am_I y9)]) dX9_why_21 (by decide) (fun _ => rfl) (fun x3 => ?_)
    refine am_iload_n dX9_why_22 rfl ?_
    refine am_iconst (v := (-1)) dX9_why_23 (by decide) ?_
    refine am_icmp_ne (tgt := 32) dX9_why_24 (by decide) (fun c4 => ?_) (fun c4 => ?_)
    · refine am_iload_n dX9_why_32 rfl ?_
      exact am_iret dX9_why_33 rfl rfl
    refine am_ldc (v := (-1000000005)) dX9_why_27 wd429 ?_
    refine am_goto (tgt := 33) dX9_why_29 (by decide) ?_
    exact am_iret dX9_why_33 rfl rfl
  refine am_ldc (v := (-1000000001)) dX9_why_9 wd316 ?_
  exact am_iret dX9_why_11 rfl rfl
theorem txX9_why {xs : List Int32} (l0 : Option Nat) (l1 : Int32) (h : am_H) (a : Int32) (h2 : am_H) (e : fxX9_why l0 l1 h = some (a, h2)) : am_Ct xs mX9_why 1 0 0 [am_R l0, am_I l1] h (fun v h3 => v = am_ci a ∧ h3 = h2) := am_meth okX9_why (Nat.le_of_ble_eq_true rfl) rfl (sxX9_why l0 l1 h) e
theorem dX9_sheet_0 : am_at cX9_sheet 0 (.iload_n 1) 1 1 := by decide +kernel
theorem dX9_sheet_1 : am_at cX9_sheet 1 (.iconst 0) 1 2 := by decide +kernel
theorem dX9_sheet_2 : am_at cX9_sheet 2 (.iconst 3) 1 3 := by decide +kernel
theorem dX9_sheet_3 : am_at cX9_sheet 3 (.invokestatic 80) 3 6 := by decide +kernel
theorem dX9_sheet_6 : am_at cX9_sheet 6 (.ifCond .eq 12) 3 9 := by decide +kernel
theorem dX9_sheet_9 : am_at cX9_sheet 9 (.iload_n 2) 1 10 := by decide +kernel
theorem dX9_sheet_10 : am_at cX9_sheet 10 (.iconst (-1)) 1 11 := by decide +kernel
theorem dX9_sheet_11 : am_at cX9_sheet 11 (.iconst 1) 1 12 := by decide +kernel
theorem dX9_sheet_12 : am_at cX9_sheet 12 (.invokestatic 80) 3 15 := by decide +kernel
theorem dX9_sheet_15 : am_at cX9_sheet 15 (.ifCond .ne 6) 3 18 := by decide +kernel
theorem dX9_sheet_18 : am_at cX9_sheet 18 (.ldc 84) 2 20 := by decide +kernel
theorem dX9_sheet_20 : am_at cX9_sheet 20 (.ireturn) 1 21 := by decide +kernel
theorem dX9_sheet_21 : am_at cX9_sheet 21 (.iload_n 2) 1 22 := by decide +kernel
theorem dX9_sheet_22 : am_at cX9_sheet 22 (.iconst (-1)) 1 23 := by decide +kernel
theorem dX9_sheet_23 : am_at cX9_sheet 23 (.if_icmp .ne 16) 3 26 := by decide +kernel
theorem dX9_sheet_26 : am_at cX9_sheet 26 (.aload_n 0) 1 27 := by decide +kernel
theorem dX9_sheet_27 : am_at cX9_sheet 27 (.getfield 56) 3 30 := by decide +kernel
theorem dX9_sheet_30 : am_at cX9_sheet 30 (.iload_n 1) 1 31 := by decide +kernel
theorem dX9_sheet_31 : am_at cX9_sheet 31 (.aaload) 1 32 := by decide +kernel
theorem dX9_sheet_32 : am_at cX9_sheet 32 (.iconst (-1)) 1 33 := by decide +kernel
theorem dX9_sheet_33 : am_at cX9_sheet 33 (.iconst 0) 1 34 := by decide +kernel
theorem dX9_sheet_34 : am_at cX9_sheet 34 (.invokevirtual 262) 3 37 := by decide +kernel
theorem dX9_sheet_37 : am_at cX9_sheet 37 (.iconst 0) 1 38 := by decide +kernel
theorem dX9_sheet_38 : am_at cX9_sheet 38 (.ireturn) 1 39 := by decide +kernel
theorem dX9_sheet_39 : am_at cX9_sheet 39 (.iload_n 3) 1 40 := by decide +kernel
theorem dX9_sheet_40 : am_at cX9_sheet 40 (.bipush 24) 2 42 := by decide +kernel
theorem dX9_sheet_42 : am_at cX9_sheet 42 (.if_icmp .le 6) 3 45 := by decide +kernel
theorem dX9_sheet_45 : am_at cX9_sheet 45 (.ldc 84) 2 47 := by decide +kernel
theorem dX9_sheet_47 : am_at cX9_sheet 47 (.ireturn) 1 48 := by decide +kernel
theorem dX9_sheet_48 : am_at cX9_sheet 48 (.iload_n 3) 1 49 := by decide +kernel
theorem dX9_sheet_49 : am_at cX9_sheet 49 (.ifCond .ge 7) 3 52 := by decide +kernel
theorem dX9_sheet_52 : am_at cX9_sheet 52 (.ldc_w 265) 3 55 := by decide +kernel
theorem dX9_sheet_55 : am_at cX9_sheet 55 (.ireturn) 1 56 := by decide +kernel
theorem dX9_sheet_56 : am_at cX9_sheet 56 (.aload_n 0) 1 57 := by decide +kernel
theorem dX9_sheet_57 : am_at cX9_sheet 57 (.getfield 56) 3 60 := by decide +kernel
theorem dX9_sheet_60 : am_at cX9_sheet 60 (.iload_n 1) 1 61 := by decide +kernel
theorem dX9_sheet_61 : am_at cX9_sheet 61 (.aaload) 1 62 := by decide +kernel
theorem dX9_sheet_62 : am_at cX9_sheet 62 (.iload_n 2) 1 63 := by decide +kernel
theorem dX9_sheet_63 : am_at cX9_sheet 63 (.iload_n 3) 1 64 := by decide +kernel
theorem dX9_sheet_64 : am_at cX9_sheet 64 (.invokevirtual 262) 3 67 := by decide +kernel
theorem dX9_sheet_67 : am_at cX9_sheet 67 (.iload_n 3) 1 68 := by decide +kernel
theorem dX9_sheet_68 : am_at cX9_sheet 68 (.ireturn) 1 69 := by decide +kernel
def fxX9_sheet (l0 : Option Nat) (l1 : Int32) (l2 : Int32) (l3 : Int32) (h : am_H) : Option (Int32 × am_H) := am_bd (fxX9_within l1 (0 : Int32) (3 : Int32) h) (fun r1 h2 => if r1 = 0 then (some ((-1000000001 : Int32), h2)) else (am_bd (fxX9_within l2 (-1 : Int32) (1 : Int32) h2) (fun r3 h4 => if r3 = 0 then (some ((-1000000001 : Int32), h4)) else (if l2 = (-1 : Int32) then (am_gd (am_ob h4 l0 9) (am_gd (am_ix h4 (am_gr h4 l0 8) 5 l1) (am_gd (am_ob h4 (am_gr h4 (am_gr h4 l0 8) l1.toNatClampNeg) 5) (am_bd (fxX5_become (am_gr h4 (am_gr h4 l0 8) l1.toNatClampNeg) (-1 : Int32) (0 : Int32) h4) (fun _ h8 => some ((0 : Int32), h8)))))) else (if l3 ≤ (24 : Int32) then (if 0 ≤ l3 then (am_gd (am_ob h4 l0 9) (am_gd (am_ix h4 (am_gr h4 l0 8) 5 l1) (am_gd (am_ob h4 (am_gr h4 (am_gr h4 l0 8) l1.toNatClampNeg) 5) (am_bd (fxX5_become (am_gr h4 (am_gr h4 l0 8) l1.toNatClampNeg) l2 l3 h4) (fun _ h5 => some (l3, h5)))))) else (some ((-1000000014 : Int32), h4))) else (some ((-1000000001 : Int32), h4)))))))
set_option maxRecDepth 100000 in
theorem sxX9_sheet {xs : List Int32} (l0 : Option Nat) (l1 : Int32) (l2 : Int32) (l3 : Int32) (h : am_H) : am_Sm xs am_ci mX9_sheet 1 0 0 0 [some (am_R l0), some (am_I l1), some (am_I l2), some (am_I l3)] [] h (fxX9_sheet l0 l1 l2 l3 h) := by
  unfold fxX9_sheet
  refine am_iload_n dX9_sheet_0 rfl ?_
  refine am_iconst (v := 0) dX9_sheet_1 (by decide) ?_
  refine am_iconst (v := 3) dX9_sheet_2 (by decide) ?_
  refine am_callS (cvj := am_ci) (mtj := mX9_within) (dj := 0) (nj := 3) (rcj := 0) (rsj := 0) (rc' := 0) (rs' := 0) (st' := fun a9 => (am_I a9 :: [])) [am_I l1, am_I (0 : Int32), am_I (3 : Int32)] [] dX9_sheet_3 okX9_within lk_RX9_80 (fun zA zH zE => txX9_within l1 (0 : Int32) (3 : Int32) h zA zH zE) rfl (fun _ => rfl) (by decide) rfl (Nat.le_of_ble_eq_true rfl) (by decide) (by decide) (fun r1 h2 => ?_)
  refine am_if_eq (tgt := 18) dX9_sheet_6 (by decide) (fun c11 => ?_) (fun c11 => ?_)
  · refine am_ldc (v := (-1000000001)) dX9_sheet_18 wd316 ?_
    exact am_iret dX9_sheet_20 rfl rfl
  refine am_iload_n dX9_sheet_9 rfl ?_
  refine am_iconst (v := (-1)) dX9_sheet_10 (by decide) ?_
  refine am_iconst (v := 1) dX9_sheet_11 (by decide) ?_
  refine am_callS (cvj := am_ci) (mtj := mX9_within) (dj := 0) (nj := 3) (rcj := 0) (rsj := 0) (rc' := 0) (rs' := 0) (st' := fun a9 => (am_I a9 :: [])) [am_I l2, am_I (-1 : Int32), am_I (1 : Int32)] [] dX9_sheet_12 okX9_within lk_RX9_80 (fun zA zH zE => txX9_within l2 (-1 : Int32) (1 : Int32) h2 zA zH zE) rfl (fun _ => rfl) (by decide) rfl (Nat.le_of_ble_eq_true rfl) (by decide) (by decide) (fun r3 h4 => ?_)
  refine am_if_ne (tgt := 21) dX9_sheet_15 (by decide) (fun c10 => ?_) (fun c10 => ?_)
  · refine am_iload_n dX9_sheet_21 rfl ?_
    refine am_iconst (v := (-1)) dX9_sheet_22 (by decide) ?_
    refine am_icmp_ne (tgt := 39) dX9_sheet_23 (by decide) (fun c9 => ?_) (fun c9 => ?_)
    · refine am_iload_n dX9_sheet_39 rfl ?_
      refine am_bipush (v := 24) dX9_sheet_40 (by decide) ?_
      refine am_icmp_le (tgt := 48) dX9_sheet_42 (by decide) (fun c7 => ?_) (fun c7 => ?_)
      · refine am_iload_n dX9_sheet_48 rfl ?_
        refine am_if_ge (tgt := 56) dX9_sheet_49 (by decide) (fun c6 => ?_) (fun c6 => ?_)
        · refine am_aload_n dX9_sheet_56 rfl ?_
          refine am_getR dX9_sheet_57 fk_RX9_56 rfl ?_
          refine am_iload_n dX9_sheet_60 rfl ?_
          refine am_aald (t := 5) dX9_sheet_61 (by decide) (by decide) ?_
          refine am_iload_n dX9_sheet_62 rfl ?_
          refine am_iload_n dX9_sheet_63 rfl ?_
          refine am_callV (cvj := am_cu) (mtj := mX5_become) (dj := 0) (nj := 2) (rcj := 0) (rsj := 0) (rc' := 0) (rs' := 0) (ci := 5) (st' := fun _ => []) ⟨_, rfl, rfl⟩ [am_I l2, am_I l3] [] dX9_sheet_64 okX5_become lk_RX9_262 (fun zA zH zE => txX5_become (am_gr h4 (am_gr h4 l0 8) l1.toNatClampNeg) l2 l3 h4 zA zH zE) rfl (fun _ => rfl) (by decide) rfl (Nat.le_of_ble_eq_true rfl) (by decide) (by decide) (fun _ h5 => ?_)
          refine am_iload_n dX9_sheet_67 rfl ?_
          exact am_iret dX9_sheet_68 rfl rfl
        refine am_ldcw (v := (-1000000014)) dX9_sheet_52 wd846 ?_
        exact am_iret dX9_sheet_55 rfl rfl
      refine am_ldc (v := (-1000000001)) dX9_sheet_45 wd316 ?_
      exact am_iret dX9_sheet_47 rfl rfl
    refine am_aload_n dX9_sheet_26 rfl ?_
    refine am_getR dX9_sheet_27 fk_RX9_56 rfl ?_
    refine am_iload_n dX9_sheet_30 rfl ?_
    refine am_aald (t := 5) dX9_sheet_31 (by decide) (by decide) ?_
    refine am_iconst (v := (-1)) dX9_sheet_32 (by decide) ?_
    refine am_iconst (v := 0) dX9_sheet_33 (by decide) ?_
    refine am_callV (cvj := am_cu) (mtj := mX5_become) (dj := 0) (nj := 2) (rcj := 0) (rsj := 0) (rc' := 0) (rs' := 0) (ci := 5) (st' := fun _ => []) ⟨_, rfl, rfl⟩ [am_I (-1 : Int32), am_I (0 : Int32)] [] dX9_sheet_34 okX5_become lk_RX9_262 (fun zA zH zE => txX5_become (am_gr h4 (am_gr h4 l0 8) l1.toNatClampNeg) (-1 : Int32) (0 : Int32) h4 zA zH zE) rfl (fun _ => rfl) (by decide) rfl (Nat.le_of_ble_eq_true rfl) (by decide) (by decide) (fun _ h8 => ?_)
    refine am_iconst (v := 0) dX9_sheet_37 (by decide) ?_
    exact am_iret dX9_sheet_38 rfl rfl
  refine am_ldc (v := (-1000000001)) dX9_sheet_18 wd316 ?_
  exact am_iret dX9_sheet_20 rfl rfl
theorem txX9_sheet {xs : List Int32} (l0 : Option Nat) (l1 : Int32) (l2 : Int32) (l3 : Int32) (h : am_H) (a : Int32) (h2 : am_H) (e : fxX9_sheet l0 l1 l2 l3 h = some (a, h2)) : am_Ct xs mX9_sheet 1 0 0 [am_R l0, am_I l1, am_I l2, am_I l3] h (fun v h3 => v = am_ci a ∧ h3 = h2) := am_meth okX9_sheet (Nat.le_of_ble_eq_true rfl) rfl (sxX9_sheet l0 l1 l2 l3 h) e
theorem dX9_mark_0 : am_at cX9_mark 0 (.iload_n 1) 1 1 := by decide +kernel
theorem dX9_mark_1 : am_at cX9_mark 1 (.iconst 0) 1 2 := by decide +kernel
theorem dX9_mark_2 : am_at cX9_mark 2 (.iconst 3) 1 3 := by decide +kernel
theorem dX9_mark_3 : am_at cX9_mark 3 (.invokestatic 80) 3 6 := by decide +kernel
theorem dX9_mark_6 : am_at cX9_mark 6 (.ifCond .ne 6) 3 9 := by decide +kernel
theorem dX9_mark_9 : am_at cX9_mark 9 (.ldc 84) 2 11 := by decide +kernel
theorem dX9_mark_11 : am_at cX9_mark 11 (.ireturn) 1 12 := by decide +kernel
theorem dX9_mark_12 : am_at cX9_mark 12 (.aload_n 0) 1 13 := by decide +kernel
theorem dX9_mark_13 : am_at cX9_mark 13 (.getfield 56) 3 16 := by decide +kernel
theorem dX9_mark_16 : am_at cX9_mark 16 (.iload_n 1) 1 17 := by decide +kernel
theorem dX9_mark_17 : am_at cX9_mark 17 (.aaload) 1 18 := by decide +kernel
theorem dX9_mark_18 : am_at cX9_mark 18 (.astore 4) 2 20 := by decide +kernel
theorem dX9_mark_20 : am_at cX9_mark 20 (.aload 4) 2 22 := by decide +kernel
theorem dX9_mark_22 : am_at cX9_mark 22 (.invokevirtual 167) 3 25 := by decide +kernel
theorem dX9_mark_25 : am_at cX9_mark 25 (.ifCond .eq 6) 3 28 := by decide +kernel
theorem dX9_mark_28 : am_at cX9_mark 28 (.ldc 171) 2 30 := by decide +kernel
theorem dX9_mark_30 : am_at cX9_mark 30 (.ireturn) 1 31 := by decide +kernel
theorem dX9_mark_31 : am_at cX9_mark 31 (.aload 4) 2 33 := by decide +kernel
theorem dX9_mark_33 : am_at cX9_mark 33 (.iload_n 2) 1 34 := by decide +kernel
theorem dX9_mark_34 : am_at cX9_mark 34 (.invokevirtual 266) 3 37 := by decide +kernel
theorem dX9_mark_37 : am_at cX9_mark 37 (.ifCond .ne 7) 3 40 := by decide +kernel
theorem dX9_mark_40 : am_at cX9_mark 40 (.ldc_w 269) 3 43 := by decide +kernel
theorem dX9_mark_43 : am_at cX9_mark 43 (.ireturn) 1 44 := by decide +kernel
theorem dX9_mark_44 : am_at cX9_mark 44 (.aload 4) 2 46 := by decide +kernel
theorem dX9_mark_46 : am_at cX9_mark 46 (.getfield 270) 3 49 := by decide +kernel
theorem dX9_mark_49 : am_at cX9_mark 49 (.ifCond .ne 12) 3 52 := by decide +kernel
theorem dX9_mark_52 : am_at cX9_mark 52 (.iload_n 3) 1 53 := by decide +kernel
theorem dX9_mark_53 : am_at cX9_mark 53 (.ldc 135) 2 55 := by decide +kernel
theorem dX9_mark_55 : am_at cX9_mark 55 (.if_icmp .ne 6) 3 58 := by decide +kernel
theorem dX9_mark_58 : am_at cX9_mark 58 (.ldc 115) 2 60 := by decide +kernel
theorem dX9_mark_60 : am_at cX9_mark 60 (.ireturn) 1 61 := by decide +kernel
theorem dX9_mark_61 : am_at cX9_mark 61 (.aload 4) 2 63 := by decide +kernel
theorem dX9_mark_63 : am_at cX9_mark 63 (.getfield 270) 3 66 := by decide +kernel
theorem dX9_mark_66 : am_at cX9_mark 66 (.iconst 1) 1 67 := by decide +kernel
theorem dX9_mark_67 : am_at cX9_mark 67 (.if_icmp .ne 25) 3 70 := by decide +kernel
theorem dX9_mark_70 : am_at cX9_mark 70 (.iload_n 3) 1 71 := by decide +kernel
theorem dX9_mark_71 : am_at cX9_mark 71 (.ldc 135) 2 73 := by decide +kernel
theorem dX9_mark_73 : am_at cX9_mark 73 (.if_icmp .eq 19) 3 76 := by decide +kernel
theorem dX9_mark_76 : am_at cX9_mark 76 (.iload_n 3) 1 77 := by decide +kernel
theorem dX9_mark_77 : am_at cX9_mark 77 (.ldc_w 273) 3 80 := by decide +kernel
theorem dX9_mark_80 : am_at cX9_mark 80 (.ldc_w 274) 3 83 := by decide +kernel
theorem dX9_mark_83 : am_at cX9_mark 83 (.invokestatic 80) 3 86 := by decide +kernel
theorem dX9_mark_86 : am_at cX9_mark 86 (.ifCond .ne 6) 3 89 := by decide +kernel
theorem dX9_mark_89 : am_at cX9_mark 89 (.ldc 84) 2 91 := by decide +kernel
theorem dX9_mark_91 : am_at cX9_mark 91 (.ireturn) 1 92 := by decide +kernel
theorem dX9_mark_92 : am_at cX9_mark 92 (.aload 4) 2 94 := by decide +kernel
theorem dX9_mark_94 : am_at cX9_mark 94 (.getfield 275) 3 97 := by decide +kernel
theorem dX9_mark_97 : am_at cX9_mark 97 (.iload_n 2) 1 98 := by decide +kernel
theorem dX9_mark_98 : am_at cX9_mark 98 (.aload 4) 2 100 := by decide +kernel
theorem dX9_mark_100 : am_at cX9_mark 100 (.getfield 270) 3 103 := by decide +kernel
theorem dX9_mark_103 : am_at cX9_mark 103 (.ifCond .ne 8) 3 106 := by decide +kernel
theorem dX9_mark_106 : am_at cX9_mark 106 (.iload_n 3) 1 107 := by decide +kernel
theorem dX9_mark_107 : am_at cX9_mark 107 (.i2s) 1 108 := by decide +kernel
theorem dX9_mark_108 : am_at cX9_mark 108 (.goto 4) 3 111 := by decide +kernel
theorem dX9_mark_111 : am_at cX9_mark 111 (.iload_n 3) 1 112 := by decide +kernel
theorem dX9_mark_112 : am_at cX9_mark 112 (.iastore) 1 113 := by decide +kernel
theorem dX9_mark_113 : am_at cX9_mark 113 (.iconst 1) 1 114 := by decide +kernel
theorem dX9_mark_114 : am_at cX9_mark 114 (.ireturn) 1 115 := by decide +kernel
def fxX9_mark_b112 (s0 : Int32) (s1 : Int32) (s2 : Option Nat) (h : am_H) : Option (Int32 × am_H) := am_gd (am_ix h s2 0 s1) (am_lt (am_si h s2 s1.toNatClampNeg s0) (fun h19 => some ((1 : Int32), h19)))
set_option maxRecDepth 100000 in
theorem sxX9_mark_b112 {xs : List Int32} (s0 : Int32) (s1 : Int32) (s2 : Option Nat) (h : am_H) : am_Sm xs am_ci mX9_mark 2 0 0 112 [none, none, none, none, none] [am_I s0, am_I s1, am_R s2] h (fxX9_mark_b112 s0 s1 s2 h) := by
  unfold fxX9_mark_b112
  refine am_iast dX9_mark_112 (fun h19 => ?_)
  refine am_iconst (v := 1) dX9_mark_113 (by decide) ?_
  exact am_iret dX9_mark_114 rfl rfl
def fxX9_mark_b92 (l2 : Int32) (l3 : Int32) (l4 : Option Nat) (h : am_H) : Option (Int32 × am_H) := am_gd (am_ob h l4 5) (am_gd (am_ob h l4 5) (if (am_gi h l4 0) = 0 then (fxX9_mark_b112 (l3.toInt16.toInt32) l2 (am_gr h l4 2) h) else (fxX9_mark_b112 l3 l2 (am_gr h l4 2) h)))
set_option maxRecDepth 100000 in
theorem sxX9_mark_b92 {xs : List Int32} (l2 : Int32) (l3 : Int32) (l4 : Option Nat) (h : am_H) : am_Sm xs am_ci mX9_mark 2 0 0 92 [none, none, some (am_I l2), some (am_I l3), some (am_R l4)] [] h (fxX9_mark_b92 l2 l3 l4 h) := by
  unfold fxX9_mark_b92
  refine am_aload dX9_mark_92 rfl ?_
  refine am_getR dX9_mark_94 fk_RX9_275 rfl ?_
  refine am_iload_n dX9_mark_97 rfl ?_
  refine am_aload dX9_mark_98 rfl ?_
  refine am_getI dX9_mark_100 fk_RX9_270 rfl ?_
  refine am_if_ne (tgt := 111) dX9_mark_103 (by decide) (fun c18 => ?_) (fun c18 => ?_)
  · refine am_iload_n dX9_mark_111 rfl ?_
    exact am_weak (sxX9_mark_b112 l3 l2 (am_gr h l4 2) h) trivial (Nat.le_refl _) (Nat.le_refl _)
  refine am_iload_n dX9_mark_106 rfl ?_
  refine am_i2s dX9_mark_107 ?_
  refine am_goto (tgt := 112) dX9_mark_108 (by decide) ?_
  exact am_weak (sxX9_mark_b112 (l3.toInt16.toInt32) l2 (am_gr h l4 2) h) trivial (Nat.le_refl _) (Nat.le_refl _)
def fxX9_mark_b61 (l2 : Int32) (l3 : Int32) (l4 : Option Nat) (h : am_H) : Option (Int32 × am_H) := am_gd (am_ob h l4 5) (if (am_gi h l4 0) = (1 : Int32) then (if l3 = (-1000000005 : Int32) then (fxX9_mark_b92 l2 l3 l4 h) else (am_bd (fxX9_within l3 (-99999 : Int32) (99999 : Int32) h) (fun r13 h14 => if r13 = 0 then (some ((-1000000001 : Int32), h14)) else (fxX9_mark_b92 l2 l3 l4 h14)))) else (fxX9_mark_b92 l2 l3 l4 h))
set_option maxRecDepth 100000 in
theorem sxX9_mark_b61 {xs : List Int32} (l2 : Int32) (l3 : Int32) (l4 : Option Nat) (h : am_H) : am_Sm xs am_ci mX9_mark 2 0 0 61 [none, none, some (am_I l2), some (am_I l3), some (am_R l4)] [] h (fxX9_mark_b61 l2 l3 l4 h) := by
  unfold fxX9_mark_b61
  refine am_aload dX9_mark_61 rfl ?_
  refine am_getI dX9_mark_63 fk_RX9_270 rfl ?_
  refine am_iconst (v := 1) dX9_mark_66 (by decide) ?_
  refine am_icmp_ne (tgt := 92) dX9_mark_67 (by decide) (fun c17 => ?_) (fun c17 => ?_)
  · exact am_weak (sxX9_mark_b92 l2 l3 l4 h) ⟨rfl, ⟨rfl, ⟨rfl, trivial⟩⟩⟩ (Nat.le_refl _) (Nat.le_refl _)
  refine am_iload_n dX9_mark_70 rfl ?_
  refine am_ldc (v := (-1000000005)) dX9_mark_71 wd429 ?_
  refine am_icmp_eq (tgt := 92) dX9_mark_73 (by decide) (fun c16 => ?_) (fun c16 => ?_)
  · exact am_weak (sxX9_mark_b92 l2 l3 l4 h) ⟨rfl, ⟨rfl, ⟨rfl, trivial⟩⟩⟩ (Nat.le_refl _) (Nat.le_refl _)
  refine am_iload_n dX9_mark_76 rfl ?_
  refine am_ldcw (v := (-99999)) dX9_mark_77 wd853 ?_
  refine am_ldcw (v := 99999) dX9_mark_80 wd854 ?_
  refine am_callS (cvj := am_ci) (mtj := mX9_within) (dj := 0) (nj := 3) (rcj := 0) (rsj := 0) (rc' := 0) (rs' := 0) (st' := fun a9 => (am_I a9 :: [])) [am_I l3, am_I (-99999 : Int32), am_I (99999 : Int32)] [] dX9_mark_83 okX9_within lk_RX9_80 (fun zA zH zE => txX9_within l3 (-99999 : Int32) (99999 : Int32) h zA zH zE) rfl (fun _ => rfl) (by decide) rfl (Nat.le_of_ble_eq_true rfl) (by decide) (by decide) (fun r13 h14 => ?_)
  refine am_if_ne (tgt := 92) dX9_mark_86 (by decide) (fun c15 => ?_) (fun c15 => ?_)
  · exact am_weak (sxX9_mark_b92 l2 l3 l4 h14) ⟨rfl, ⟨rfl, ⟨rfl, trivial⟩⟩⟩ (Nat.le_refl _) (Nat.le_refl _)
  refine am_ldc (v := (-1000000001)) dX9_mark_89 wd316 ?_
  exact am_iret dX9_mark_91 rfl rfl
def fxX9_mark (l0 : Option Nat) (l1 : Int32) (l2 : Int32) (l3 : Int32) (h : am_H) : Option (Int32 × am_H) := am_bd (fxX9_within l1 (0 : Int32) (3 : Int32) h) (fun r1 h2 => if r1 = 0 then (some ((-1000000001 : Int32), h2)) else (am_gd (am_ob h2 l0 9) (am_gd (am_ix h2 (am_gr h2 l0 8) 5 l1) (am_lt (am_gr h2 (am_gr h2 l0 8) l1.toNatClampNeg) (fun q3 => am_gd (am_ob h2 q3 5) (am_bd (fxX5_isMissing q3 h2) (fun r4 h5 => if r4 = 0 then (am_gd (am_ob h5 q3 5) (am_bd (fxX5_hasPlace q3 l2 h5) (fun r6 h7 => if r6 = 0 then (some ((-1000000013 : Int32), h7)) else (am_gd (am_ob h7 q3 5) (if (am_gi h7 q3 0) = 0 then (if l3 = (-1000000005 : Int32) then (some ((-1000000012 : Int32), h7)) else (fxX9_mark_b61 l2 l3 q3 h7)) else (fxX9_mark_b61 l2 l3 q3 h7)))))) else (some ((-1000000011 : Int32), h5)))))))))
set_option maxRecDepth 100000 in
theorem sxX9_mark {xs : List Int32} (l0 : Option Nat) (l1 : Int32) (l2 : Int32) (l3 : Int32) (h : am_H) : am_Sm xs am_ci mX9_mark 2 0 0 0 [some (am_R l0), some (am_I l1), some (am_I l2), some (am_I l3), none] [] h (fxX9_mark l0 l1 l2 l3 h) := by
  unfold fxX9_mark
  refine am_iload_n dX9_mark_0 rfl ?_
  refine am_iconst (v := 0) dX9_mark_1 (by decide) ?_
  refine am_iconst (v := 3) dX9_mark_2 (by decide) ?_
  refine am_callS (cvj := am_ci) (mtj := mX9_within) (dj := 0) (nj := 3) (rcj := 0) (rsj := 0) (rc' := 0) (rs' := 0) (st' := fun a9 => (am_I a9 :: [])) [am_I l1, am_I (0 : Int32), am_I (3 : Int32)] [] dX9_mark_3 okX9_within lk_RX9_80 (fun zA zH zE => txX9_within l1 (0 : Int32) (3 : Int32) h zA zH zE) rfl (fun _ => rfl) (by decide) rfl (Nat.le_of_ble_eq_true rfl) (by decide) (by decide) (fun r1 h2 => ?_)
  refine am_if_ne (tgt := 12) dX9_mark_6 (by decide) (fun c12 => ?_) (fun c12 => ?_)
  · refine am_aload_n dX9_mark_12 rfl ?_
    refine am_getR dX9_mark_13 fk_RX9_56 rfl ?_
    refine am_iload_n dX9_mark_16 rfl ?_
    refine am_aald (t := 5) dX9_mark_17 (by decide) (by decide) ?_
    refine am_astore (LL := fun y9 => [some (am_R l0), some (am_I l1), some (am_I l2), some (am_I l3), some (am_R y9)]) dX9_mark_18 (by decide) (fun _ => rfl) (fun q3 => ?_)
    refine am_aload dX9_mark_20 rfl ?_
    refine am_callV (cvj := am_ci) (mtj := mX5_isMissing) (dj := 0) (nj := 0) (rcj := 0) (rsj := 0) (rc' := 0) (rs' := 0) (ci := 5) (st' := fun a9 => (am_I a9 :: [])) ⟨_, rfl, rfl⟩ [] [] dX9_mark_22 okX5_isMissing lk_RX9_167 (fun zA zH zE => txX5_isMissing q3 h2 zA zH zE) rfl (fun _ => rfl) (by decide) rfl (Nat.le_of_ble_eq_true rfl) (by decide) (by decide) (fun r4 h5 => ?_)
    refine am_if_eq (tgt := 31) dX9_mark_25 (by decide) (fun c11 => ?_) (fun c11 => ?_)
    · refine am_aload dX9_mark_31 rfl ?_
      refine am_iload_n dX9_mark_33 rfl ?_
      refine am_callV (cvj := am_ci) (mtj := mX5_hasPlace) (dj := 1) (nj := 1) (rcj := 0) (rsj := 0) (rc' := 0) (rs' := 0) (ci := 5) (st' := fun a9 => (am_I a9 :: [])) ⟨_, rfl, rfl⟩ [am_I l2] [] dX9_mark_34 okX5_hasPlace lk_RX9_266 (fun zA zH zE => txX5_hasPlace q3 l2 h5 zA zH zE) rfl (fun _ => rfl) (by decide) rfl (Nat.le_of_ble_eq_true rfl) (by decide) (by decide) (fun r6 h7 => ?_)
      refine am_if_ne (tgt := 44) dX9_mark_37 (by decide) (fun c10 => ?_) (fun c10 => ?_)
      · refine am_aload dX9_mark_44 rfl ?_
        refine am_getI dX9_mark_46 fk_RX9_270 rfl ?_
        refine am_if_ne (tgt := 61) dX9_mark_49 (by decide) (fun c9 => ?_) (fun c9 => ?_)
        · exact am_weak (sxX9_mark_b61 l2 l3 q3 h7) ⟨rfl, ⟨rfl, ⟨rfl, trivial⟩⟩⟩ (Nat.le_refl _) (Nat.le_refl _)
        refine am_iload_n dX9_mark_52 rfl ?_
        refine am_ldc (v := (-1000000005)) dX9_mark_53 wd429 ?_
        refine am_icmp_ne (tgt := 61) dX9_mark_55 (by decide) (fun c8 => ?_) (fun c8 => ?_)
        · exact am_weak (sxX9_mark_b61 l2 l3 q3 h7) ⟨rfl, ⟨rfl, ⟨rfl, trivial⟩⟩⟩ (Nat.le_refl _) (Nat.le_refl _)
        refine am_ldc (v := (-1000000012)) dX9_mark_58 wd354 ?_
        exact am_iret dX9_mark_60 rfl rfl
      refine am_ldcw (v := (-1000000013)) dX9_mark_40 wd852 ?_
      exact am_iret dX9_mark_43 rfl rfl
    refine am_ldc (v := (-1000000011)) dX9_mark_28 wd499 ?_
    exact am_iret dX9_mark_30 rfl rfl
  refine am_ldc (v := (-1000000001)) dX9_mark_9 wd316 ?_
  exact am_iret dX9_mark_11 rfl rfl
theorem txX9_mark {xs : List Int32} (l0 : Option Nat) (l1 : Int32) (l2 : Int32) (l3 : Int32) (h : am_H) (a : Int32) (h2 : am_H) (e : fxX9_mark l0 l1 l2 l3 h = some (a, h2)) : am_Ct xs mX9_mark 2 0 0 [am_R l0, am_I l1, am_I l2, am_I l3] h (fun v h3 => v = am_ci a ∧ h3 = h2) := am_meth okX9_mark (Nat.le_of_ble_eq_true rfl) rfl (sxX9_mark l0 l1 l2 l3 h) e
theorem dX9_pour_0 : am_at cX9_pour 0 (.iload_n 1) 1 1 := by decide +kernel
theorem dX9_pour_1 : am_at cX9_pour 1 (.iconst 0) 1 2 := by decide +kernel
theorem dX9_pour_2 : am_at cX9_pour 2 (.iconst 3) 1 3 := by decide +kernel
theorem dX9_pour_3 : am_at cX9_pour 3 (.invokestatic 80) 3 6 := by decide +kernel
theorem dX9_pour_6 : am_at cX9_pour 6 (.ifCond .ne 6) 3 9 := by decide +kernel
theorem dX9_pour_9 : am_at cX9_pour 9 (.ldc 84) 2 11 := by decide +kernel
theorem dX9_pour_11 : am_at cX9_pour 11 (.ireturn) 1 12 := by decide +kernel
theorem dX9_pour_12 : am_at cX9_pour 12 (.aload_n 0) 1 13 := by decide +kernel
theorem dX9_pour_13 : am_at cX9_pour 13 (.getfield 56) 3 16 := by decide +kernel
theorem dX9_pour_16 : am_at cX9_pour 16 (.iload_n 1) 1 17 := by decide +kernel
theorem dX9_pour_17 : am_at cX9_pour 17 (.aaload) 1 18 := by decide +kernel
theorem dX9_pour_18 : am_at cX9_pour 18 (.astore_n 2) 1 19 := by decide +kernel
theorem dX9_pour_19 : am_at cX9_pour 19 (.aload_n 2) 1 20 := by decide +kernel
theorem dX9_pour_20 : am_at cX9_pour 20 (.invokevirtual 167) 3 23 := by decide +kernel
theorem dX9_pour_23 : am_at cX9_pour 23 (.ifCond .eq 6) 3 26 := by decide +kernel
theorem dX9_pour_26 : am_at cX9_pour 26 (.ldc 171) 2 28 := by decide +kernel
theorem dX9_pour_28 : am_at cX9_pour 28 (.ireturn) 1 29 := by decide +kernel
theorem dX9_pour_29 : am_at cX9_pour 29 (.iconst 0) 1 30 := by decide +kernel
theorem dX9_pour_30 : am_at cX9_pour 30 (.istore_n 3) 1 31 := by decide +kernel
theorem dX9_pour_31 : am_at cX9_pour 31 (.iconst 0) 1 32 := by decide +kernel
theorem dX9_pour_32 : am_at cX9_pour 32 (.istore 4) 2 34 := by decide +kernel
theorem dX9_pour_34 : am_at cX9_pour 34 (.iload 4) 2 36 := by decide +kernel
theorem dX9_pour_36 : am_at cX9_pour 36 (.aload_n 0) 1 37 := by decide +kernel
theorem dX9_pour_37 : am_at cX9_pour 37 (.getfield 10) 3 40 := by decide +kernel
theorem dX9_pour_40 : am_at cX9_pour 40 (.getfield 136) 3 43 := by decide +kernel
theorem dX9_pour_43 : am_at cX9_pour 43 (.if_icmp .ge 68) 3 46 := by decide +kernel
theorem dX9_pour_46 : am_at cX9_pour 46 (.aload_n 2) 1 47 := by decide +kernel
theorem dX9_pour_47 : am_at cX9_pour 47 (.iload 4) 2 49 := by decide +kernel
theorem dX9_pour_49 : am_at cX9_pour 49 (.invokevirtual 278) 3 52 := by decide +kernel
theorem dX9_pour_52 : am_at cX9_pour 52 (.ifCond .eq 53) 3 55 := by decide +kernel
theorem dX9_pour_55 : am_at cX9_pour 55 (.aload_n 2) 1 56 := by decide +kernel
theorem dX9_pour_56 : am_at cX9_pour 56 (.getfield 275) 3 59 := by decide +kernel
theorem dX9_pour_59 : am_at cX9_pour 59 (.iload 4) 2 61 := by decide +kernel
theorem dX9_pour_61 : am_at cX9_pour 61 (.iaload) 1 62 := by decide +kernel
theorem dX9_pour_62 : am_at cX9_pour 62 (.bipush 99) 2 64 := by decide +kernel
theorem dX9_pour_64 : am_at cX9_pour 64 (.invokestatic 281) 3 67 := by decide +kernel
theorem dX9_pour_67 : am_at cX9_pour 67 (.istore 5) 2 69 := by decide +kernel
theorem dX9_pour_69 : am_at cX9_pour 69 (.aload_n 0) 1 70 := by decide +kernel
theorem dX9_pour_70 : am_at cX9_pour 70 (.getfield 10) 3 73 := by decide +kernel
theorem dX9_pour_73 : am_at cX9_pour 73 (.getfield 92) 3 76 := by decide +kernel
theorem dX9_pour_76 : am_at cX9_pour 76 (.iload 4) 2 78 := by decide +kernel
theorem dX9_pour_78 : am_at cX9_pour 78 (.aaload) 1 79 := by decide +kernel
theorem dX9_pour_79 : am_at cX9_pour 79 (.getfield 112) 3 82 := by decide +kernel
theorem dX9_pour_82 : am_at cX9_pour 82 (.iload 5) 2 84 := by decide +kernel
theorem dX9_pour_84 : am_at cX9_pour 84 (.if_icmp .eq 6) 3 87 := by decide +kernel
theorem dX9_pour_87 : am_at cX9_pour 87 (.iinc 3 1) 3 90 := by decide +kernel
theorem dX9_pour_90 : am_at cX9_pour 90 (.aload_n 0) 1 91 := by decide +kernel
theorem dX9_pour_91 : am_at cX9_pour 91 (.getfield 10) 3 94 := by decide +kernel
theorem dX9_pour_94 : am_at cX9_pour 94 (.getfield 92) 3 97 := by decide +kernel
theorem dX9_pour_97 : am_at cX9_pour 97 (.iload 4) 2 99 := by decide +kernel
theorem dX9_pour_99 : am_at cX9_pour 99 (.aaload) 1 100 := by decide +kernel
theorem dX9_pour_100 : am_at cX9_pour 100 (.iload 5) 2 102 := by decide +kernel
theorem dX9_pour_102 : am_at cX9_pour 102 (.putfield 112) 3 105 := by decide +kernel
theorem dX9_pour_105 : am_at cX9_pour 105 (.iinc 4 1) 3 108 := by decide +kernel
theorem dX9_pour_108 : am_at cX9_pour 108 (.goto (-74)) 3 111 := by decide +kernel
theorem dX9_pour_111 : am_at cX9_pour 111 (.iload_n 3) 1 112 := by decide +kernel
theorem dX9_pour_112 : am_at cX9_pour 112 (.ireturn) 1 113 := by decide +kernel
def fxX9_pour_b105 (k34 : Option Nat → Option Nat → Int32 → Int32 → am_H → Option (Int32 × am_H)) (l0 : Option Nat) (l2 : Option Nat) (l3 : Int32) (l4 : Int32) (h : am_H) : Option (Int32 × am_H) := am_lt (l4 + 1) (fun x19 => k34 l0 l2 l3 x19 h)
set_option maxRecDepth 100000 in
theorem sxX9_pour_b105 {xs : List Int32} (k34 : Option Nat → Option Nat → Int32 → Int32 → am_H → Option (Int32 × am_H)) (hk34 : ∀ (l0 : Option Nat) (l2 : Option Nat) (l3 : Int32) (l4 : Int32) (h : am_H), am_Sm xs am_ci mX9_pour 3 0 0 34 [some (am_R l0), none, some (am_R l2), some (am_I l3), some (am_I l4), none] [] h (k34 l0 l2 l3 l4 h)) (l0 : Option Nat) (l2 : Option Nat) (l3 : Int32) (l4 : Int32) (h : am_H) : am_Sm xs am_ci mX9_pour 3 0 0 105 [some (am_R l0), none, some (am_R l2), some (am_I l3), some (am_I l4), none] [] h (fxX9_pour_b105 k34 l0 l2 l3 l4 h) := by
  unfold fxX9_pour_b105
  refine am_iinc (v := 1) (LL := fun y9 => [some (am_R l0), none, some (am_R l2), some (am_I l3), some (am_I y9), none]) dX9_pour_105 (by decide) rfl (by decide) (fun _ => rfl) (fun x19 => ?_)
  refine am_goto (tgt := 34) dX9_pour_108 (by decide) ?_
  exact am_weak (hk34 l0 l2 l3 x19 h) ⟨rfl, ⟨rfl, ⟨rfl, ⟨rfl, trivial⟩⟩⟩⟩ (Nat.le_refl _) (Nat.le_refl _)
def fxX9_pour_b90 (k34 : Option Nat → Option Nat → Int32 → Int32 → am_H → Option (Int32 × am_H)) (l0 : Option Nat) (l2 : Option Nat) (l3 : Int32) (l4 : Int32) (l5 : Int32) (h : am_H) : Option (Int32 × am_H) := am_gd (am_ob h l0 9) (am_gd (am_ob h (am_gr h l0 0) 2) (am_gd (am_ix h (am_gr h (am_gr h l0 0) 0) 3 l4) (am_gd (am_ob h (am_gr h (am_gr h (am_gr h l0 0) 0) l4.toNatClampNeg) 1) (am_lt (am_si h (am_gr h (am_gr h (am_gr h l0 0) 0) l4.toNatClampNeg) 3 l5) (fun h20 => fxX9_pour_b105 k34 l0 l2 l3 l4 h20)))))
set_option maxRecDepth 100000 in
theorem sxX9_pour_b90 {xs : List Int32} (k34 : Option Nat → Option Nat → Int32 → Int32 → am_H → Option (Int32 × am_H)) (hk34 : ∀ (l0 : Option Nat) (l2 : Option Nat) (l3 : Int32) (l4 : Int32) (h : am_H), am_Sm xs am_ci mX9_pour 3 0 0 34 [some (am_R l0), none, some (am_R l2), some (am_I l3), some (am_I l4), none] [] h (k34 l0 l2 l3 l4 h)) (l0 : Option Nat) (l2 : Option Nat) (l3 : Int32) (l4 : Int32) (l5 : Int32) (h : am_H) : am_Sm xs am_ci mX9_pour 3 0 0 90 [some (am_R l0), none, some (am_R l2), some (am_I l3), some (am_I l4), some (am_I l5)] [] h (fxX9_pour_b90 k34 l0 l2 l3 l4 l5 h) := by
  unfold fxX9_pour_b90
  refine am_aload_n dX9_pour_90 rfl ?_
  refine am_getR dX9_pour_91 fk_RX9_10 rfl ?_
  refine am_getR dX9_pour_94 fk_RX9_92 rfl ?_
  refine am_iload dX9_pour_97 rfl ?_
  refine am_aald (t := 3) dX9_pour_99 (by decide) (by decide) ?_
  refine am_iload dX9_pour_100 rfl ?_
  refine am_putI dX9_pour_102 fk_RX9_112 ⟨_, rfl, Or.inl rfl⟩ rfl (fun h20 => ?_)
  exact am_weak (sxX9_pour_b105 k34 hk34 l0 l2 l3 l4 h20) ⟨rfl, ⟨rfl, ⟨rfl, ⟨rfl, trivial⟩⟩⟩⟩ (Nat.le_refl _) (Nat.le_refl _)
def fxX9_pour_b34 : Nat → Option Nat → Option Nat → Int32 → Int32 → am_H → Option (Int32 × am_H)
  | 0, _, _, _, _, _ => none
  | n + 1, l0, l2, l3, l4, h => am_gd (am_ob h l0 9) (am_gd (am_ob h (am_gr h l0 0) 2) (if (am_gi h (am_gr h l0 0) 1) ≤ l4 then (some (l3, h)) else (am_gd (am_ob h l2 5) (am_bd (fxX5_hasNumber l2 l4 h) (fun r10 h11 => if r10 = 0 then (fxX9_pour_b105 (fxX9_pour_b34 n) l0 l2 l3 l4 h11) else (am_gd (am_ob h11 l2 5) (am_gd (am_ix h11 (am_gr h11 l2 2) 0 l4) (am_bd (fxX9_held (am_gi h11 (am_gr h11 l2 2) l4.toNatClampNeg) (99 : Int32) h11) (fun r12 h13 => am_lt r12 (fun x14 => am_gd (am_ob h13 l0 9) (am_gd (am_ob h13 (am_gr h13 l0 0) 2) (am_gd (am_ix h13 (am_gr h13 (am_gr h13 l0 0) 0) 3 l4) (am_gd (am_ob h13 (am_gr h13 (am_gr h13 (am_gr h13 l0 0) 0) l4.toNatClampNeg) 1) (if (am_gi h13 (am_gr h13 (am_gr h13 (am_gr h13 l0 0) 0) l4.toNatClampNeg) 3) = x14 then (fxX9_pour_b90 (fxX9_pour_b34 n) l0 l2 l3 l4 x14 h13) else (am_lt (l3 + 1) (fun x15 => fxX9_pour_b90 (fxX9_pour_b34 n) l0 l2 x15 l4 x14 h13))))))))))))))))
set_option maxRecDepth 100000 in
theorem sxX9_pour_b34 {xs : List Int32} : ∀ (n : Nat) (l0 : Option Nat) (l2 : Option Nat) (l3 : Int32) (l4 : Int32) (h : am_H), am_Sm xs am_ci mX9_pour 3 0 0 34 [some (am_R l0), none, some (am_R l2), some (am_I l3), some (am_I l4), none] [] h (fxX9_pour_b34 n l0 l2 l3 l4 h) := by
  intro n
  induction n with
  | zero => intros; exact am_none
  | succ n ih =>
    intro l0 l2 l3 l4 h
    rw [fxX9_pour_b34]
    refine am_iload dX9_pour_34 rfl ?_
    refine am_aload_n dX9_pour_36 rfl ?_
    refine am_getR dX9_pour_37 fk_RX9_10 rfl ?_
    refine am_getI dX9_pour_40 fk_RX9_136 rfl ?_
    refine am_icmp_ge (tgt := 111) dX9_pour_43 (by decide) (fun c18 => ?_) (fun c18 => ?_)
    · refine am_iload_n dX9_pour_111 rfl ?_
      exact am_iret dX9_pour_112 rfl rfl
    refine am_aload_n dX9_pour_46 rfl ?_
    refine am_iload dX9_pour_47 rfl ?_
    refine am_callV (cvj := am_ci) (mtj := mX5_hasNumber) (dj := 2) (nj := 1) (rcj := 0) (rsj := 0) (rc' := 0) (rs' := 0) (ci := 5) (st' := fun a9 => (am_I a9 :: [])) ⟨_, rfl, rfl⟩ [am_I l4] [] dX9_pour_49 okX5_hasNumber lk_RX9_278 (fun zA zH zE => txX5_hasNumber l2 l4 h zA zH zE) rfl (fun _ => rfl) (by decide) rfl (Nat.le_of_ble_eq_true rfl) (by decide) (by decide) (fun r10 h11 => ?_)
    refine am_if_eq (tgt := 105) dX9_pour_52 (by decide) (fun c17 => ?_) (fun c17 => ?_)
    · exact am_weak (sxX9_pour_b105 (fxX9_pour_b34 n) ih l0 l2 l3 l4 h11) ⟨rfl, ⟨rfl, ⟨rfl, ⟨rfl, trivial⟩⟩⟩⟩ (Nat.le_refl _) (Nat.le_refl _)
    refine am_aload_n dX9_pour_55 rfl ?_
    refine am_getR dX9_pour_56 fk_RX9_275 rfl ?_
    refine am_iload dX9_pour_59 rfl ?_
    refine am_iald dX9_pour_61 ?_
    refine am_bipush (v := 99) dX9_pour_62 (by decide) ?_
    refine am_callS (cvj := am_ci) (mtj := mX9_held) (dj := 1) (nj := 2) (rcj := 0) (rsj := 0) (rc' := 0) (rs' := 0) (st' := fun a9 => (am_I a9 :: [])) [am_I (am_gi h11 (am_gr h11 l2 2) l4.toNatClampNeg), am_I (99 : Int32)] [] dX9_pour_64 okX9_held lk_RX9_281 (fun zA zH zE => txX9_held (am_gi h11 (am_gr h11 l2 2) l4.toNatClampNeg) (99 : Int32) h11 zA zH zE) rfl (fun _ => rfl) (by decide) rfl (Nat.le_of_ble_eq_true rfl) (by decide) (by decide) (fun r12 h13 => ?_)
    refine am_istore (LL := fun y9 => [some (am_R l0), none, some (am_R l2), some (am_I l3), some (am_I l4), some (am_I y9)]) dX9_pour_67 (by decide) (fun _ => rfl) (fun x14 => ?_)
    refine am_aload_n dX9_pour_69 rfl ?_
    refine am_getR dX9_pour_70 fk_RX9_10 rfl ?_
    refine am_getR dX9_pour_73 fk_RX9_92 rfl ?_
    refine am_iload dX9_pour_76 rfl ?_
    refine am_aald (t := 3) dX9_pour_78 (by decide) (by decide) ?_
    refine am_getI dX9_pour_79 fk_RX9_112 rfl ?_
    refine am_iload dX9_pour_82 rfl ?_
    refine am_icmp_eq (tgt := 90) dX9_pour_84 (by decide) (fun c16 => ?_) (fun c16 => ?_)
    · exact am_weak (sxX9_pour_b90 (fxX9_pour_b34 n) ih l0 l2 l3 l4 x14 h13) ⟨rfl, ⟨rfl, ⟨rfl, ⟨rfl, ⟨rfl, trivial⟩⟩⟩⟩⟩ (Nat.le_refl _) (Nat.le_refl _)
    refine am_iinc (v := 1) (LL := fun y9 => [some (am_R l0), none, some (am_R l2), some (am_I y9), some (am_I l4), some (am_I x14)]) dX9_pour_87 (by decide) rfl (by decide) (fun _ => rfl) (fun x15 => ?_)
    exact am_weak (sxX9_pour_b90 (fxX9_pour_b34 n) ih l0 l2 x15 l4 x14 h13) ⟨rfl, ⟨rfl, ⟨rfl, ⟨rfl, ⟨rfl, trivial⟩⟩⟩⟩⟩ (Nat.le_refl _) (Nat.le_refl _)
def fxX9_pour (l0 : Option Nat) (l1 : Int32) (h : am_H) : Option (Int32 × am_H) := am_bd (fxX9_within l1 (0 : Int32) (3 : Int32) h) (fun r1 h2 => if r1 = 0 then (some ((-1000000001 : Int32), h2)) else (am_gd (am_ob h2 l0 9) (am_gd (am_ix h2 (am_gr h2 l0 8) 5 l1) (am_lt (am_gr h2 (am_gr h2 l0 8) l1.toNatClampNeg) (fun q3 => am_gd (am_ob h2 q3 5) (am_bd (fxX5_isMissing q3 h2) (fun r4 h5 => if r4 = 0 then (am_lt (0 : Int32) (fun x6 => am_lt (0 : Int32) (fun x7 => fxX9_pour_b34 am_F l0 q3 x6 x7 h5))) else (some ((-1000000011 : Int32), h5)))))))))
set_option maxRecDepth 100000 in
theorem sxX9_pour {xs : List Int32} (l0 : Option Nat) (l1 : Int32) (h : am_H) : am_Sm xs am_ci mX9_pour 3 0 0 0 [some (am_R l0), some (am_I l1), none, none, none, none] [] h (fxX9_pour l0 l1 h) := by
  unfold fxX9_pour
  refine am_iload_n dX9_pour_0 rfl ?_
  refine am_iconst (v := 0) dX9_pour_1 (by decide) ?_
  refine am_iconst (v := 3) dX9_pour_2 (by decide) ?_
  refine am_callS (cvj := am_ci) (mtj := mX9_within) (dj := 0) (nj := 3) (rcj := 0) (rsj := 0) (rc' := 0) (rs' := 0) (st' := fun a9 => (am_I a9 :: [])) [am_I l1, am_I (0 : Int32), am_I (3 : Int32)] [] dX9_pour_3 okX9_within lk_RX9_80 (fun zA zH zE => txX9_within l1 (0 : Int32) (3 : Int32) h zA zH zE) rfl (fun _ => rfl) (by decide) rfl (Nat.le_of_ble_eq_true rfl) (by decide) (by decide) (fun r1 h2 => ?_)
  refine am_if_ne (tgt := 12) dX9_pour_6 (by decide) (fun c9 => ?_) (fun c9 => ?_)
  · refine am_aload_n dX9_pour_12 rfl ?_
    refine am_getR dX9_pour_13 fk_RX9_56 rfl ?_
    refine am_iload_n dX9_pour_16 rfl ?_
    refine am_aald (t := 5) dX9_pour_17 (by decide) (by decide) ?_
    refine am_astore_n (LL := fun y9 => [some (am_R l0), some (am_I l1), some (am_R y9), none, none, none]) dX9_pour_18 (by decide) (fun _ => rfl) (fun q3 => ?_)
    refine am_aload_n dX9_pour_19 rfl ?_
    refine am_callV (cvj := am_ci) (mtj := mX5_isMissing) (dj := 0) (nj := 0) (rcj := 0) (rsj := 0) (rc' := 0) (rs' := 0) (ci := 5) (st' := fun a9 => (am_I a9 :: [])) ⟨_, rfl, rfl⟩ [] [] dX9_pour_20 okX5_isMissing lk_RX9_167 (fun zA zH zE => txX5_isMissing q3 h2 zA zH zE) rfl (fun _ => rfl) (by decide) rfl (Nat.le_of_ble_eq_true rfl) (by decide) (by decide) (fun r4 h5 => ?_)
    refine am_if_eq (tgt := 29) dX9_pour_23 (by decide) (fun c8 => ?_) (fun c8 => ?_)
    · refine am_iconst (v := 0) dX9_pour_29 (by decide) ?_
      refine am_istore_n (LL := fun y9 => [some (am_R l0), some (am_I l1), some (am_R q3), some (am_I y9), none, none]) dX9_pour_30 (by decide) (fun _ => rfl) (fun x6 => ?_)
      refine am_iconst (v := 0) dX9_pour_31 (by decide) ?_
      refine am_istore (LL := fun y9 => [some (am_R l0), some (am_I l1), some (am_R q3), some (am_I x6), some (am_I y9), none]) dX9_pour_32 (by decide) (fun _ => rfl) (fun x7 => ?_)
      exact am_weak (sxX9_pour_b34 am_F l0 q3 x6 x7 h5) ⟨rfl, ⟨rfl, ⟨rfl, ⟨rfl, trivial⟩⟩⟩⟩ (Nat.le_refl _) (Nat.le_refl _)
    refine am_ldc (v := (-1000000011)) dX9_pour_26 wd499 ?_
    exact am_iret dX9_pour_28 rfl rfl
  refine am_ldc (v := (-1000000001)) dX9_pour_9 wd316 ?_
  exact am_iret dX9_pour_11 rfl rfl
theorem txX9_pour {xs : List Int32} (l0 : Option Nat) (l1 : Int32) (h : am_H) (a : Int32) (h2 : am_H) (e : fxX9_pour l0 l1 h = some (a, h2)) : am_Ct xs mX9_pour 3 0 0 [am_R l0, am_I l1] h (fun v h3 => v = am_ci a ∧ h3 = h2) := am_meth okX9_pour (Nat.le_of_ble_eq_true rfl) rfl (sxX9_pour l0 l1 h) e
theorem dX9_reads_0 : am_at cX9_reads 0 (.iload_n 1) 1 1 := by decide +kernel
theorem dX9_reads_1 : am_at cX9_reads 1 (.iconst 0) 1 2 := by decide +kernel
theorem dX9_reads_2 : am_at cX9_reads 2 (.iconst 3) 1 3 := by decide +kernel
theorem dX9_reads_3 : am_at cX9_reads 3 (.invokestatic 80) 3 6 := by decide +kernel
theorem dX9_reads_6 : am_at cX9_reads 6 (.ifCond .ne 6) 3 9 := by decide +kernel
theorem dX9_reads_9 : am_at cX9_reads 9 (.ldc 84) 2 11 := by decide +kernel
theorem dX9_reads_11 : am_at cX9_reads 11 (.ireturn) 1 12 := by decide +kernel
theorem dX9_reads_12 : am_at cX9_reads 12 (.aload_n 0) 1 13 := by decide +kernel
theorem dX9_reads_13 : am_at cX9_reads 13 (.getfield 56) 3 16 := by decide +kernel
theorem dX9_reads_16 : am_at cX9_reads 16 (.iload_n 1) 1 17 := by decide +kernel
theorem dX9_reads_17 : am_at cX9_reads 17 (.aaload) 1 18 := by decide +kernel
theorem dX9_reads_18 : am_at cX9_reads 18 (.astore_n 2) 1 19 := by decide +kernel
theorem dX9_reads_19 : am_at cX9_reads 19 (.aload_n 2) 1 20 := by decide +kernel
theorem dX9_reads_20 : am_at cX9_reads 20 (.invokevirtual 167) 3 23 := by decide +kernel
theorem dX9_reads_23 : am_at cX9_reads 23 (.ifCond .eq 6) 3 26 := by decide +kernel
theorem dX9_reads_26 : am_at cX9_reads 26 (.ldc 171) 2 28 := by decide +kernel
theorem dX9_reads_28 : am_at cX9_reads 28 (.ireturn) 1 29 := by decide +kernel
theorem dX9_reads_29 : am_at cX9_reads 29 (.iconst 0) 1 30 := by decide +kernel
theorem dX9_reads_30 : am_at cX9_reads 30 (.istore_n 3) 1 31 := by decide +kernel
theorem dX9_reads_31 : am_at cX9_reads 31 (.iload_n 3) 1 32 := by decide +kernel
theorem dX9_reads_32 : am_at cX9_reads 32 (.aload_n 2) 1 33 := by decide +kernel
theorem dX9_reads_33 : am_at cX9_reads 33 (.getfield 284) 3 36 := by decide +kernel
theorem dX9_reads_36 : am_at cX9_reads 36 (.if_icmp .ge 51) 3 39 := by decide +kernel
theorem dX9_reads_39 : am_at cX9_reads 39 (.aload_n 2) 1 40 := by decide +kernel
theorem dX9_reads_40 : am_at cX9_reads 40 (.iload_n 3) 1 41 := by decide +kernel
theorem dX9_reads_41 : am_at cX9_reads 41 (.invokevirtual 278) 3 44 := by decide +kernel
theorem dX9_reads_44 : am_at cX9_reads 44 (.ifCond .eq 37) 3 47 := by decide +kernel
theorem dX9_reads_47 : am_at cX9_reads 47 (.aload_n 0) 1 48 := by decide +kernel
theorem dX9_reads_48 : am_at cX9_reads 48 (.getfield 10) 3 51 := by decide +kernel
theorem dX9_reads_51 : am_at cX9_reads 51 (.iload_n 3) 1 52 := by decide +kernel
theorem dX9_reads_52 : am_at cX9_reads 52 (.invokevirtual 89) 3 55 := by decide +kernel
theorem dX9_reads_55 : am_at cX9_reads 55 (.ifCond .eq 24) 3 58 := by decide +kernel
theorem dX9_reads_58 : am_at cX9_reads 58 (.aload_n 2) 1 59 := by decide +kernel
theorem dX9_reads_59 : am_at cX9_reads 59 (.getfield 275) 3 62 := by decide +kernel
theorem dX9_reads_62 : am_at cX9_reads 62 (.iload_n 3) 1 63 := by decide +kernel
theorem dX9_reads_63 : am_at cX9_reads 63 (.iaload) 1 64 := by decide +kernel
theorem dX9_reads_64 : am_at cX9_reads 64 (.aload_n 0) 1 65 := by decide +kernel
theorem dX9_reads_65 : am_at cX9_reads 65 (.getfield 10) 3 68 := by decide +kernel
theorem dX9_reads_68 : am_at cX9_reads 68 (.getfield 92) 3 71 := by decide +kernel
theorem dX9_reads_71 : am_at cX9_reads 71 (.iload_n 3) 1 72 := by decide +kernel
theorem dX9_reads_72 : am_at cX9_reads 72 (.aaload) 1 73 := by decide +kernel
theorem dX9_reads_73 : am_at cX9_reads 73 (.getfield 287) 3 76 := by decide +kernel
theorem dX9_reads_76 : am_at cX9_reads 76 (.if_icmp .eq 5) 3 79 := by decide +kernel
theorem dX9_reads_79 : am_at cX9_reads 79 (.iload_n 3) 1 80 := by decide +kernel
theorem dX9_reads_80 : am_at cX9_reads 80 (.ireturn) 1 81 := by decide +kernel
theorem dX9_reads_81 : am_at cX9_reads 81 (.iinc 3 1) 3 84 := by decide +kernel
theorem dX9_reads_84 : am_at cX9_reads 84 (.goto (-53)) 3 87 := by decide +kernel
theorem dX9_reads_87 : am_at cX9_reads 87 (.ldc 135) 2 89 := by decide +kernel
theorem dX9_reads_89 : am_at cX9_reads 89 (.ireturn) 1 90 := by decide +kernel
def fxX9_reads_b81 (k31 : Option Nat → Option Nat → Int32 → am_H → Option (Int32 × am_H)) (l0 : Option Nat) (l2 : Option Nat) (l3 : Int32) (h : am_H) : Option (Int32 × am_H) := am_lt (l3 + 1) (fun x17 => k31 l0 l2 x17 h)
set_option maxRecDepth 100000 in
theorem sxX9_reads_b81 {xs : List Int32} (k31 : Option Nat → Option Nat → Int32 → am_H → Option (Int32 × am_H)) (hk31 : ∀ (l0 : Option Nat) (l2 : Option Nat) (l3 : Int32) (h : am_H), am_Sm xs am_ci mX9_reads 3 0 0 31 [some (am_R l0), none, some (am_R l2), some (am_I l3)] [] h (k31 l0 l2 l3 h)) (l0 : Option Nat) (l2 : Option Nat) (l3 : Int32) (h : am_H) : am_Sm xs am_ci mX9_reads 3 0 0 81 [some (am_R l0), none, some (am_R l2), some (am_I l3)] [] h (fxX9_reads_b81 k31 l0 l2 l3 h) := by
  unfold fxX9_reads_b81
  refine am_iinc (v := 1) (LL := fun y9 => [some (am_R l0), none, some (am_R l2), some (am_I y9)]) dX9_reads_81 (by decide) rfl (by decide) (fun _ => rfl) (fun x17 => ?_)
  refine am_goto (tgt := 31) dX9_reads_84 (by decide) ?_
  exact am_weak (hk31 l0 l2 x17 h) ⟨rfl, ⟨rfl, ⟨rfl, trivial⟩⟩⟩ (Nat.le_refl _) (Nat.le_refl _)
def fxX9_reads_b31 : Nat → Option Nat → Option Nat → Int32 → am_H → Option (Int32 × am_H)
  | 0, _, _, _, _ => none
  | n + 1, l0, l2, l3, h => am_gd (am_ob h l2 5) (if (am_gi h l2 1) ≤ l3 then (some ((-1000000005 : Int32), h)) else (am_gd (am_ob h l2 5) (am_bd (fxX5_hasNumber l2 l3 h) (fun r9 h10 => if r9 = 0 then (fxX9_reads_b81 (fxX9_reads_b31 n) l0 l2 l3 h10) else (am_gd (am_ob h10 l0 9) (am_gd (am_ob h10 (am_gr h10 l0 0) 2) (am_bd (fxX2_hasGlove (am_gr h10 l0 0) l3 h10) (fun r11 h12 => if r11 = 0 then (some (l3, h12)) else (am_gd (am_ob h12 l2 5) (am_gd (am_ix h12 (am_gr h12 l2 2) 0 l3) (am_gd (am_ob h12 l0 9) (am_gd (am_ob h12 (am_gr h12 l0 0) 2) (am_gd (am_ix h12 (am_gr h12 (am_gr h12 l0 0) 0) 3 l3) (am_gd (am_ob h12 (am_gr h12 (am_gr h12 (am_gr h12 l0 0) 0) l3.toNatClampNeg) 1) (if (am_gi h12 (am_gr h12 l2 2) l3.toNatClampNeg) = (am_gi h12 (am_gr h12 (am_gr h12 (am_gr h12 l0 0) 0) l3.toNatClampNeg) 4) then (fxX9_reads_b81 (fxX9_reads_b31 n) l0 l2 l3 h12) else (some (l3, h12)))))))))))))))))
set_option maxRecDepth 100000 in
theorem sxX9_reads_b31 {xs : List Int32} : ∀ (n : Nat) (l0 : Option Nat) (l2 : Option Nat) (l3 : Int32) (h : am_H), am_Sm xs am_ci mX9_reads 3 0 0 31 [some (am_R l0), none, some (am_R l2), some (am_I l3)] [] h (fxX9_reads_b31 n l0 l2 l3 h) := by
  intro n
  induction n with
  | zero => intros; exact am_none
  | succ n ih =>
    intro l0 l2 l3 h
    rw [fxX9_reads_b31]
    refine am_iload_n dX9_reads_31 rfl ?_
    refine am_aload_n dX9_reads_32 rfl ?_
    refine am_getI dX9_reads_33 fk_RX9_284 rfl ?_
    refine am_icmp_ge (tgt := 87) dX9_reads_36 (by decide) (fun c16 => ?_) (fun c16 => ?_)
    · refine am_ldc (v := (-1000000005)) dX9_reads_87 wd429 ?_
      exact am_iret dX9_reads_89 rfl rfl
    refine am_aload_n dX9_reads_39 rfl ?_
    refine am_iload_n dX9_reads_40 rfl ?_
    refine am_callV (cvj := am_ci) (mtj := mX5_hasNumber) (dj := 2) (nj := 1) (rcj := 0) (rsj := 0) (rc' := 0) (rs' := 0) (ci := 5) (st' := fun a9 => (am_I a9 :: [])) ⟨_, rfl, rfl⟩ [am_I l3] [] dX9_reads_41 okX5_hasNumber lk_RX9_278 (fun zA zH zE => txX5_hasNumber l2 l3 h zA zH zE) rfl (fun _ => rfl) (by decide) rfl (Nat.le_of_ble_eq_true rfl) (by decide) (by decide) (fun r9 h10 => ?_)
    refine am_if_eq (tgt := 81) dX9_reads_44 (by decide) (fun c15 => ?_) (fun c15 => ?_)
    · exact am_weak (sxX9_reads_b81 (fxX9_reads_b31 n) ih l0 l2 l3 h10) ⟨rfl, ⟨rfl, ⟨rfl, trivial⟩⟩⟩ (Nat.le_refl _) (Nat.le_refl _)
    refine am_aload_n dX9_reads_47 rfl ?_
    refine am_getR dX9_reads_48 fk_RX9_10 rfl ?_
    refine am_iload_n dX9_reads_51 rfl ?_
    refine am_callV (cvj := am_ci) (mtj := mX2_hasGlove) (dj := 1) (nj := 1) (rcj := 0) (rsj := 0) (rc' := 0) (rs' := 0) (ci := 2) (st' := fun a9 => (am_I a9 :: [])) ⟨_, rfl, rfl⟩ [am_I l3] [] dX9_reads_52 okX2_hasGlove lk_RX9_89 (fun zA zH zE => txX2_hasGlove (am_gr h10 l0 0) l3 h10 zA zH zE) rfl (fun _ => rfl) (by decide) rfl (Nat.le_of_ble_eq_true rfl) (by decide) (by decide) (fun r11 h12 => ?_)
    refine am_if_eq (tgt := 79) dX9_reads_55 (by decide) (fun c14 => ?_) (fun c14 => ?_)
    · refine am_iload_n dX9_reads_79 rfl ?_
      exact am_iret dX9_reads_80 rfl rfl
    refine am_aload_n dX9_reads_58 rfl ?_
    refine am_getR dX9_reads_59 fk_RX9_275 rfl ?_
    refine am_iload_n dX9_reads_62 rfl ?_
    refine am_iald dX9_reads_63 ?_
    refine am_aload_n dX9_reads_64 rfl ?_
    refine am_getR dX9_reads_65 fk_RX9_10 rfl ?_
    refine am_getR dX9_reads_68 fk_RX9_92 rfl ?_
    refine am_iload_n dX9_reads_71 rfl ?_
    refine am_aald (t := 3) dX9_reads_72 (by decide) (by decide) ?_
    refine am_getI dX9_reads_73 fk_RX9_287 rfl ?_
    refine am_icmp_eq (tgt := 81) dX9_reads_76 (by decide) (fun c13 => ?_) (fun c13 => ?_)
    · exact am_weak (sxX9_reads_b81 (fxX9_reads_b31 n) ih l0 l2 l3 h12) ⟨rfl, ⟨rfl, ⟨rfl, trivial⟩⟩⟩ (Nat.le_refl _) (Nat.le_refl _)
    refine am_iload_n dX9_reads_79 rfl ?_
    exact am_iret dX9_reads_80 rfl rfl
def fxX9_reads (l0 : Option Nat) (l1 : Int32) (h : am_H) : Option (Int32 × am_H) := am_bd (fxX9_within l1 (0 : Int32) (3 : Int32) h) (fun r1 h2 => if r1 = 0 then (some ((-1000000001 : Int32), h2)) else (am_gd (am_ob h2 l0 9) (am_gd (am_ix h2 (am_gr h2 l0 8) 5 l1) (am_lt (am_gr h2 (am_gr h2 l0 8) l1.toNatClampNeg) (fun q3 => am_gd (am_ob h2 q3 5) (am_bd (fxX5_isMissing q3 h2) (fun r4 h5 => if r4 = 0 then (am_lt (0 : Int32) (fun x6 => fxX9_reads_b31 am_F l0 q3 x6 h5)) else (some ((-1000000011 : Int32), h5)))))))))
set_option maxRecDepth 100000 in
theorem sxX9_reads {xs : List Int32} (l0 : Option Nat) (l1 : Int32) (h : am_H) : am_Sm xs am_ci mX9_reads 3 0 0 0 [some (am_R l0), some (am_I l1), none, none] [] h (fxX9_reads l0 l1 h) := by
  unfold fxX9_reads
  refine am_iload_n dX9_reads_0 rfl ?_
  refine am_iconst (v := 0) dX9_reads_1 (by decide) ?_
  refine am_iconst (v := 3) dX9_reads_2 (by decide) ?_
  refine am_callS (cvj := am_ci) (mtj := mX9_within) (dj := 0) (nj := 3) (rcj := 0) (rsj := 0) (rc' := 0) (rs' := 0) (st' := fun a9 => (am_I a9 :: [])) [am_I l1, am_I (0 : Int32), am_I (3 : Int32)] [] dX9_reads_3 okX9_within lk_RX9_80 (fun zA zH zE => txX9_within l1 (0 : Int32) (3 : Int32) h zA zH zE) rfl (fun _ => rfl) (by decide) rfl (Nat.le_of_ble_eq_true rfl) (by decide) (by decide) (fun r1 h2 => ?_)
  refine am_if_ne (tgt := 12) dX9_reads_6 (by decide) (fun c8 => ?_) (fun c8 => ?_)
  · refine am_aload_n dX9_reads_12 rfl ?_
    refine am_getR dX9_reads_13 fk_RX9_56 rfl ?_
    refine am_iload_n dX9_reads_16 rfl ?_
    refine am_aald (t := 5) dX9_reads_17 (by decide) (by decide) ?_
    refine am_astore_n (LL := fun y9 => [some (am_R l0), some (am_I l1), some (am_R y9), none]) dX9_reads_18 (by decide) (fun _ => rfl) (fun q3 => ?_)
    refine am_aload_n dX9_reads_19 rfl ?_
    refine am_callV (cvj := am_ci) (mtj := mX5_isMissing) (dj := 0) (nj := 0) (rcj := 0) (rsj := 0) (rc' := 0) (rs' := 0) (ci := 5) (st' := fun a9 => (am_I a9 :: [])) ⟨_, rfl, rfl⟩ [] [] dX9_reads_20 okX5_isMissing lk_RX9_167 (fun zA zH zE => txX5_isMissing q3 h2 zA zH zE) rfl (fun _ => rfl) (by decide) rfl (Nat.le_of_ble_eq_true rfl) (by decide) (by decide) (fun r4 h5 => ?_)
    refine am_if_eq (tgt := 29) dX9_reads_23 (by decide) (fun c7 => ?_) (fun c7 => ?_)
    · refine am_iconst (v := 0) dX9_reads_29 (by decide) ?_
      refine am_istore_n (LL := fun y9 => [some (am_R l0), some (am_I l1), some (am_R q3), some (am_I y9)]) dX9_reads_30 (by decide) (fun _ => rfl) (fun x6 => ?_)
      exact am_weak (sxX9_reads_b31 am_F l0 q3 x6 h5) ⟨rfl, ⟨rfl, ⟨rfl, trivial⟩⟩⟩ (Nat.le_refl _) (Nat.le_refl _)
    refine am_ldc (v := (-1000000011)) dX9_reads_26 wd499 ?_
    exact am_iret dX9_reads_28 rfl rfl
  refine am_ldc (v := (-1000000001)) dX9_reads_9 wd316 ?_
  exact am_iret dX9_reads_11 rfl rfl
theorem txX9_reads {xs : List Int32} (l0 : Option Nat) (l1 : Int32) (h : am_H) (a : Int32) (h2 : am_H) (e : fxX9_reads l0 l1 h = some (a, h2)) : am_Ct xs mX9_reads 3 0 0 [am_R l0, am_I l1] h (fun v h3 => v = am_ci a ∧ h3 = h2) := am_meth okX9_reads (Nat.le_of_ble_eq_true rfl) rfl (sxX9_reads l0 l1 h) e
theorem dX9_copy_0 : am_at cX9_copy 0 (.iload_n 1) 1 1 := by decide +kernel
theorem dX9_copy_1 : am_at cX9_copy 1 (.iconst 0) 1 2 := by decide +kernel
theorem dX9_copy_2 : am_at cX9_copy 2 (.iconst 3) 1 3 := by decide +kernel
theorem dX9_copy_3 : am_at cX9_copy 3 (.invokestatic 80) 3 6 := by decide +kernel
theorem dX9_copy_6 : am_at cX9_copy 6 (.ifCond .eq 12) 3 9 := by decide +kernel
theorem dX9_copy_9 : am_at cX9_copy 9 (.iload_n 3) 1 10 := by decide +kernel
theorem dX9_copy_10 : am_at cX9_copy 10 (.iconst 0) 1 11 := by decide +kernel
theorem dX9_copy_11 : am_at cX9_copy 11 (.iconst 3) 1 12 := by decide +kernel
theorem dX9_copy_12 : am_at cX9_copy 12 (.invokestatic 80) 3 15 := by decide +kernel
theorem dX9_copy_15 : am_at cX9_copy 15 (.ifCond .ne 6) 3 18 := by decide +kernel
theorem dX9_copy_18 : am_at cX9_copy 18 (.ldc 84) 2 20 := by decide +kernel
theorem dX9_copy_20 : am_at cX9_copy 20 (.ireturn) 1 21 := by decide +kernel
theorem dX9_copy_21 : am_at cX9_copy 21 (.aload_n 0) 1 22 := by decide +kernel
theorem dX9_copy_22 : am_at cX9_copy 22 (.getfield 56) 3 25 := by decide +kernel
theorem dX9_copy_25 : am_at cX9_copy 25 (.iload_n 1) 1 26 := by decide +kernel
theorem dX9_copy_26 : am_at cX9_copy 26 (.aaload) 1 27 := by decide +kernel
theorem dX9_copy_27 : am_at cX9_copy 27 (.astore 6) 2 29 := by decide +kernel
theorem dX9_copy_29 : am_at cX9_copy 29 (.aload_n 0) 1 30 := by decide +kernel
theorem dX9_copy_30 : am_at cX9_copy 30 (.getfield 56) 3 33 := by decide +kernel
theorem dX9_copy_33 : am_at cX9_copy 33 (.iload_n 3) 1 34 := by decide +kernel
theorem dX9_copy_34 : am_at cX9_copy 34 (.aaload) 1 35 := by decide +kernel
theorem dX9_copy_35 : am_at cX9_copy 35 (.astore 7) 2 37 := by decide +kernel
theorem dX9_copy_37 : am_at cX9_copy 37 (.aload 6) 2 39 := by decide +kernel
theorem dX9_copy_39 : am_at cX9_copy 39 (.invokevirtual 167) 3 42 := by decide +kernel
theorem dX9_copy_42 : am_at cX9_copy 42 (.ifCond .ne 11) 3 45 := by decide +kernel
theorem dX9_copy_45 : am_at cX9_copy 45 (.aload 7) 2 47 := by decide +kernel
theorem dX9_copy_47 : am_at cX9_copy 47 (.invokevirtual 167) 3 50 := by decide +kernel
theorem dX9_copy_50 : am_at cX9_copy 50 (.ifCond .eq 6) 3 53 := by decide +kernel
theorem dX9_copy_53 : am_at cX9_copy 53 (.ldc 171) 2 55 := by decide +kernel
theorem dX9_copy_55 : am_at cX9_copy 55 (.ireturn) 1 56 := by decide +kernel
theorem dX9_copy_56 : am_at cX9_copy 56 (.aload 6) 2 58 := by decide +kernel
theorem dX9_copy_58 : am_at cX9_copy 58 (.getfield 270) 3 61 := by decide +kernel
theorem dX9_copy_61 : am_at cX9_copy 61 (.aload 7) 2 63 := by decide +kernel
theorem dX9_copy_63 : am_at cX9_copy 63 (.getfield 270) 3 66 := by decide +kernel
theorem dX9_copy_66 : am_at cX9_copy 66 (.if_icmp .eq 6) 3 69 := by decide +kernel
theorem dX9_copy_69 : am_at cX9_copy 69 (.ldc 115) 2 71 := by decide +kernel
theorem dX9_copy_71 : am_at cX9_copy 71 (.ireturn) 1 72 := by decide +kernel
theorem dX9_copy_72 : am_at cX9_copy 72 (.aload 6) 2 74 := by decide +kernel
theorem dX9_copy_74 : am_at cX9_copy 74 (.iload_n 2) 1 75 := by decide +kernel
theorem dX9_copy_75 : am_at cX9_copy 75 (.iload 5) 2 77 := by decide +kernel
theorem dX9_copy_77 : am_at cX9_copy 77 (.invokevirtual 290) 3 80 := by decide +kernel
theorem dX9_copy_80 : am_at cX9_copy 80 (.ifCond .eq 15) 3 83 := by decide +kernel
theorem dX9_copy_83 : am_at cX9_copy 83 (.aload 7) 2 85 := by decide +kernel
theorem dX9_copy_85 : am_at cX9_copy 85 (.iload 4) 2 87 := by decide +kernel
theorem dX9_copy_87 : am_at cX9_copy 87 (.iload 5) 2 89 := by decide +kernel
theorem dX9_copy_89 : am_at cX9_copy 89 (.invokevirtual 290) 3 92 := by decide +kernel
theorem dX9_copy_92 : am_at cX9_copy 92 (.ifCond .ne 7) 3 95 := by decide +kernel
theorem dX9_copy_95 : am_at cX9_copy 95 (.ldc_w 269) 3 98 := by decide +kernel
theorem dX9_copy_98 : am_at cX9_copy 98 (.ireturn) 1 99 := by decide +kernel
theorem dX9_copy_99 : am_at cX9_copy 99 (.aload 6) 2 101 := by decide +kernel
theorem dX9_copy_101 : am_at cX9_copy 101 (.getfield 275) 3 104 := by decide +kernel
theorem dX9_copy_104 : am_at cX9_copy 104 (.iload_n 2) 1 105 := by decide +kernel
theorem dX9_copy_105 : am_at cX9_copy 105 (.aload 7) 2 107 := by decide +kernel
theorem dX9_copy_107 : am_at cX9_copy 107 (.getfield 275) 3 110 := by decide +kernel
theorem dX9_copy_110 : am_at cX9_copy 110 (.iload 4) 2 112 := by decide +kernel
theorem dX9_copy_112 : am_at cX9_copy 112 (.iload 5) 2 114 := by decide +kernel
theorem dX9_copy_114 : am_at cX9_copy 114 (.invokestatic 293) 3 117 := by decide +kernel
theorem dX9_copy_117 : am_at cX9_copy 117 (.iload 5) 2 119 := by decide +kernel
theorem dX9_copy_119 : am_at cX9_copy 119 (.ireturn) 1 120 := by decide +kernel
def fxX9_copy (l0 : Option Nat) (l1 : Int32) (l2 : Int32) (l3 : Int32) (l4 : Int32) (l5 : Int32) (h : am_H) : Option (Int32 × am_H) := am_bd (fxX9_within l1 (0 : Int32) (3 : Int32) h) (fun r1 h2 => if r1 = 0 then (some ((-1000000001 : Int32), h2)) else (am_bd (fxX9_within l3 (0 : Int32) (3 : Int32) h2) (fun r3 h4 => if r3 = 0 then (some ((-1000000001 : Int32), h4)) else (am_gd (am_ob h4 l0 9) (am_gd (am_ix h4 (am_gr h4 l0 8) 5 l1) (am_lt (am_gr h4 (am_gr h4 l0 8) l1.toNatClampNeg) (fun q5 => am_gd (am_ob h4 l0 9) (am_gd (am_ix h4 (am_gr h4 l0 8) 5 l3) (am_lt (am_gr h4 (am_gr h4 l0 8) l3.toNatClampNeg) (fun q6 => am_gd (am_ob h4 q5 5) (am_bd (fxX5_isMissing q5 h4) (fun r7 h8 => if r7 = 0 then (am_gd (am_ob h8 q6 5) (am_bd (fxX5_isMissing q6 h8) (fun r9 h10 => if r9 = 0 then (am_gd (am_ob h10 q5 5) (am_gd (am_ob h10 q6 5) (if (am_gi h10 q5 0) = (am_gi h10 q6 0) then (am_gd (am_ob h10 q5 5) (am_bd (fxX5_hasPlaces q5 l2 l5 h10) (fun r11 h12 => if r11 = 0 then (some ((-1000000013 : Int32), h12)) else (am_gd (am_ob h12 q6 5) (am_bd (fxX5_hasPlaces q6 l4 l5 h12) (fun r13 h14 => if r13 = 0 then (some ((-1000000013 : Int32), h14)) else (am_gd (am_ob h14 q5 5) (am_gd (am_ob h14 q6 5) (am_gd (am_cpok h14 (am_gr h14 q5 2) (am_gr h14 q6 2) l2 l4 l5) (am_lt (am_cp h14 (am_gr h14 q5 2) (am_gr h14 q6 2) l2.toNatClampNeg l4.toNatClampNeg l5.toNatClampNeg) (fun h15 => some (l5, h15)))))))))))) else (some ((-1000000012 : Int32), h10))))) else (some ((-1000000011 : Int32), h10))))) else (some ((-1000000011 : Int32), h8))))))))))))))
set_option maxRecDepth 100000 in
theorem sxX9_copy {xs : List Int32} (l0 : Option Nat) (l1 : Int32) (l2 : Int32) (l3 : Int32) (l4 : Int32) (l5 : Int32) (h : am_H) : am_Sm xs am_ci mX9_copy 2 0 0 0 [some (am_R l0), some (am_I l1), some (am_I l2), some (am_I l3), some (am_I l4), some (am_I l5), none, none] [] h (fxX9_copy l0 l1 l2 l3 l4 l5 h) := by
  unfold fxX9_copy
  refine am_iload_n dX9_copy_0 rfl ?_
  refine am_iconst (v := 0) dX9_copy_1 (by decide) ?_
  refine am_iconst (v := 3) dX9_copy_2 (by decide) ?_
  refine am_callS (cvj := am_ci) (mtj := mX9_within) (dj := 0) (nj := 3) (rcj := 0) (rsj := 0) (rc' := 0) (rs' := 0) (st' := fun a9 => (am_I a9 :: [])) [am_I l1, am_I (0 : Int32), am_I (3 : Int32)] [] dX9_copy_3 okX9_within lk_RX9_80 (fun zA zH zE => txX9_within l1 (0 : Int32) (3 : Int32) h zA zH zE) rfl (fun _ => rfl) (by decide) rfl (Nat.le_of_ble_eq_true rfl) (by decide) (by decide) (fun r1 h2 => ?_)
  refine am_if_eq (tgt := 18) dX9_copy_6 (by decide) (fun c22 => ?_) (fun c22 => ?_)
  · refine am_ldc (v := (-1000000001)) dX9_copy_18 wd316 ?_
    exact am_iret dX9_copy_20 rfl rfl
  refine am_iload_n dX9_copy_9 rfl ?_
  refine am_iconst (v := 0) dX9_copy_10 (by decide) ?_
  refine am_iconst (v := 3) dX9_copy_11 (by decide) ?_
  refine am_callS (cvj := am_ci) (mtj := mX9_within) (dj := 0) (nj := 3) (rcj := 0) (rsj := 0) (rc' := 0) (rs' := 0) (st' := fun a9 => (am_I a9 :: [])) [am_I l3, am_I (0 : Int32), am_I (3 : Int32)] [] dX9_copy_12 okX9_within lk_RX9_80 (fun zA zH zE => txX9_within l3 (0 : Int32) (3 : Int32) h2 zA zH zE) rfl (fun _ => rfl) (by decide) rfl (Nat.le_of_ble_eq_true rfl) (by decide) (by decide) (fun r3 h4 => ?_)
  refine am_if_ne (tgt := 21) dX9_copy_15 (by decide) (fun c21 => ?_) (fun c21 => ?_)
  · refine am_aload_n dX9_copy_21 rfl ?_
    refine am_getR dX9_copy_22 fk_RX9_56 rfl ?_
    refine am_iload_n dX9_copy_25 rfl ?_
    refine am_aald (t := 5) dX9_copy_26 (by decide) (by decide) ?_
    refine am_astore (LL := fun y9 => [some (am_R l0), some (am_I l1), some (am_I l2), some (am_I l3), some (am_I l4), some (am_I l5), some (am_R y9), none]) dX9_copy_27 (by decide) (fun _ => rfl) (fun q5 => ?_)
    refine am_aload_n dX9_copy_29 rfl ?_
    refine am_getR dX9_copy_30 fk_RX9_56 rfl ?_
    refine am_iload_n dX9_copy_33 rfl ?_
    refine am_aald (t := 5) dX9_copy_34 (by decide) (by decide) ?_
    refine am_astore (LL := fun y9 => [some (am_R l0), some (am_I l1), some (am_I l2), some (am_I l3), some (am_I l4), some (am_I l5), some (am_R q5), some (am_R y9)]) dX9_copy_35 (by decide) (fun _ => rfl) (fun q6 => ?_)
    refine am_aload dX9_copy_37 rfl ?_
    refine am_callV (cvj := am_ci) (mtj := mX5_isMissing) (dj := 0) (nj := 0) (rcj := 0) (rsj := 0) (rc' := 0) (rs' := 0) (ci := 5) (st' := fun a9 => (am_I a9 :: [])) ⟨_, rfl, rfl⟩ [] [] dX9_copy_39 okX5_isMissing lk_RX9_167 (fun zA zH zE => txX5_isMissing q5 h4 zA zH zE) rfl (fun _ => rfl) (by decide) rfl (Nat.le_of_ble_eq_true rfl) (by decide) (by decide) (fun r7 h8 => ?_)
    refine am_if_ne (tgt := 53) dX9_copy_42 (by decide) (fun c20 => ?_) (fun c20 => ?_)
    · refine am_ldc (v := (-1000000011)) dX9_copy_53 wd499 ?_
      exact am_iret dX9_copy_55 rfl rfl
    refine am_aload dX9_copy_45 rfl ?_
    refine am_callV (cvj := am_ci) (mtj := mX5_isMissing) (dj := 0) (nj := 0) (rcj := 0) (rsj := 0) (rc' := 0) (rs' := 0) (ci := 5) (st' := fun a9 => (am_I a9 :: [])) ⟨_, rfl, rfl⟩ [] [] dX9_copy_47 okX5_isMissing lk_RX9_167 (fun zA zH zE => txX5_isMissing q6 h8 zA zH zE) rfl (fun _ => rfl) (by decide) rfl (Nat.le_of_ble_eq_true rfl) (by decide) (by decide) (fun r9 h10 => ?_)
    refine am_if_eq (tgt := 56) dX9_copy_50 (by decide) (fun c19 => ?_) (fun c19 => ?_)
    · refine am_aload dX9_copy_56 rfl ?_
      refine am_getI dX9_copy_58 fk_RX9_270 rfl ?_
      refine am_aload dX9_copy_61 rfl ?_
      refine am_getI dX9_copy_63 fk_RX9_270 rfl ?_
      refine am_icmp_eq (tgt := 72) dX9_copy_66 (by decide) (fun c18 => ?_) (fun c18 => ?_)
      · refine am_aload dX9_copy_72 rfl ?_
        refine am_iload_n dX9_copy_74 rfl ?_
        refine am_iload dX9_copy_75 rfl ?_
        refine am_callV (cvj := am_ci) (mtj := mX5_hasPlaces) (dj := 1) (nj := 2) (rcj := 0) (rsj := 0) (rc' := 0) (rs' := 0) (ci := 5) (st' := fun a9 => (am_I a9 :: [])) ⟨_, rfl, rfl⟩ [am_I l2, am_I l5] [] dX9_copy_77 okX5_hasPlaces lk_RX9_290 (fun zA zH zE => txX5_hasPlaces q5 l2 l5 h10 zA zH zE) rfl (fun _ => rfl) (by decide) rfl (Nat.le_of_ble_eq_true rfl) (by decide) (by decide) (fun r11 h12 => ?_)
        refine am_if_eq (tgt := 95) dX9_copy_80 (by decide) (fun c17 => ?_) (fun c17 => ?_)
        · refine am_ldcw (v := (-1000000013)) dX9_copy_95 wd852 ?_
          exact am_iret dX9_copy_98 rfl rfl
        refine am_aload dX9_copy_83 rfl ?_
        refine am_iload dX9_copy_85 rfl ?_
        refine am_iload dX9_copy_87 rfl ?_
        refine am_callV (cvj := am_ci) (mtj := mX5_hasPlaces) (dj := 1) (nj := 2) (rcj := 0) (rsj := 0) (rc' := 0) (rs' := 0) (ci := 5) (st' := fun a9 => (am_I a9 :: [])) ⟨_, rfl, rfl⟩ [am_I l4, am_I l5] [] dX9_copy_89 okX5_hasPlaces lk_RX9_290 (fun zA zH zE => txX5_hasPlaces q6 l4 l5 h12 zA zH zE) rfl (fun _ => rfl) (by decide) rfl (Nat.le_of_ble_eq_true rfl) (by decide) (by decide) (fun r13 h14 => ?_)
        refine am_if_ne (tgt := 99) dX9_copy_92 (by decide) (fun c16 => ?_) (fun c16 => ?_)
        · refine am_aload dX9_copy_99 rfl ?_
          refine am_getR dX9_copy_101 fk_RX9_275 rfl ?_
          refine am_iload_n dX9_copy_104 rfl ?_
          refine am_aload dX9_copy_105 rfl ?_
          refine am_getR dX9_copy_107 fk_RX9_275 rfl ?_
          refine am_iload dX9_copy_110 rfl ?_
          refine am_iload dX9_copy_112 rfl ?_
          refine am_acopy dX9_copy_114 wd873 wd875 wd874 wd18 (by decide) (Nat.le_of_ble_eq_true rfl) (fun h15 => ?_)
          refine am_iload dX9_copy_117 rfl ?_
          exact am_iret dX9_copy_119 rfl rfl
        refine am_ldcw (v := (-1000000013)) dX9_copy_95 wd852 ?_
        exact am_iret dX9_copy_98 rfl rfl
      refine am_ldc (v := (-1000000012)) dX9_copy_69 wd354 ?_
      exact am_iret dX9_copy_71 rfl rfl
    refine am_ldc (v := (-1000000011)) dX9_copy_53 wd499 ?_
    exact am_iret dX9_copy_55 rfl rfl
  refine am_ldc (v := (-1000000001)) dX9_copy_18 wd316 ?_
  exact am_iret dX9_copy_20 rfl rfl
theorem txX9_copy {xs : List Int32} (l0 : Option Nat) (l1 : Int32) (l2 : Int32) (l3 : Int32) (l4 : Int32) (l5 : Int32) (h : am_H) (a : Int32) (h2 : am_H) (e : fxX9_copy l0 l1 l2 l3 l4 l5 h = some (a, h2)) : am_Ct xs mX9_copy 2 0 0 [am_R l0, am_I l1, am_I l2, am_I l3, am_I l4, am_I l5] h (fun v h3 => v = am_ci a ∧ h3 = h2) := am_meth okX9_copy (Nat.le_of_ble_eq_true rfl) rfl (sxX9_copy l0 l1 l2 l3 l4 l5 h) e
theorem dX9_isSlot_0 : am_at cX9_isSlot 0 (.iload_n 0) 1 1 := by decide +kernel
theorem dX9_isSlot_1 : am_at cX9_isSlot 1 (.iconst 0) 1 2 := by decide +kernel
theorem dX9_isSlot_2 : am_at cX9_isSlot 2 (.iconst 4) 1 3 := by decide +kernel
theorem dX9_isSlot_3 : am_at cX9_isSlot 3 (.invokestatic 80) 3 6 := by decide +kernel
theorem dX9_isSlot_6 : am_at cX9_isSlot 6 (.ireturn) 1 7 := by decide +kernel
def fxX9_isSlot (l0 : Int32) (h : am_H) : Option (Int32 × am_H) := am_bd (fxX9_within l0 (0 : Int32) (4 : Int32) h) (fun r1 h2 => am_gd (am_bz r1) (some (r1, h2)))
set_option maxRecDepth 100000 in
theorem sxX9_isSlot {xs : List Int32} (l0 : Int32) (h : am_H) : am_Sm xs am_ci mX9_isSlot 1 0 0 0 [some (am_I l0)] [] h (fxX9_isSlot l0 h) := by
  unfold fxX9_isSlot
  refine am_iload_n dX9_isSlot_0 rfl ?_
  refine am_iconst (v := 0) dX9_isSlot_1 (by decide) ?_
  refine am_iconst (v := 4) dX9_isSlot_2 (by decide) ?_
  refine am_callS (cvj := am_ci) (mtj := mX9_within) (dj := 0) (nj := 3) (rcj := 0) (rsj := 0) (rc' := 0) (rs' := 0) (st' := fun a9 => (am_I a9 :: [])) [am_I l0, am_I (0 : Int32), am_I (4 : Int32)] [] dX9_isSlot_3 okX9_within lk_RX9_80 (fun zA zH zE => txX9_within l0 (0 : Int32) (4 : Int32) h zA zH zE) rfl (fun _ => rfl) (by decide) rfl (Nat.le_of_ble_eq_true rfl) (by decide) (by decide) (fun r1 h2 => ?_)
  exact am_zret dX9_isSlot_6 rfl rfl
theorem txX9_isSlot {xs : List Int32} (l0 : Int32) (h : am_H) (a : Int32) (h2 : am_H) (e : fxX9_isSlot l0 h = some (a, h2)) : am_Ct xs mX9_isSlot 1 0 0 [am_I l0] h (fun v h3 => v = am_ci a ∧ h3 = h2) := am_meth okX9_isSlot (Nat.le_of_ble_eq_true rfl) rfl (sxX9_isSlot l0 h) e
theorem dX9_isThere_0 : am_at cX9_isThere 0 (.iload_n 1) 1 1 := by decide +kernel
theorem dX9_isThere_1 : am_at cX9_isThere 1 (.iconst 1) 1 2 := by decide +kernel
theorem dX9_isThere_2 : am_at cX9_isThere 2 (.if_icmp .ne 12) 3 5 := by decide +kernel
theorem dX9_isThere_5 : am_at cX9_isThere 5 (.aload_n 0) 1 6 := by decide +kernel
theorem dX9_isThere_6 : am_at cX9_isThere 6 (.getfield 10) 3 9 := by decide +kernel
theorem dX9_isThere_9 : am_at cX9_isThere 9 (.iload_n 2) 1 10 := by decide +kernel
theorem dX9_isThere_10 : am_at cX9_isThere 10 (.invokevirtual 89) 3 13 := by decide +kernel
theorem dX9_isThere_13 : am_at cX9_isThere 13 (.ireturn) 1 14 := by decide +kernel
theorem dX9_isThere_14 : am_at cX9_isThere 14 (.iload_n 1) 1 15 := by decide +kernel
theorem dX9_isThere_15 : am_at cX9_isThere 15 (.iconst 2) 1 16 := by decide +kernel
theorem dX9_isThere_16 : am_at cX9_isThere 16 (.if_icmp .ne 12) 3 19 := by decide +kernel
theorem dX9_isThere_19 : am_at cX9_isThere 19 (.iload_n 2) 1 20 := by decide +kernel
theorem dX9_isThere_20 : am_at cX9_isThere 20 (.iconst 0) 1 21 := by decide +kernel
theorem dX9_isThere_21 : am_at cX9_isThere 21 (.iconst 3) 1 22 := by decide +kernel
theorem dX9_isThere_22 : am_at cX9_isThere 22 (.invokestatic 80) 3 25 := by decide +kernel
theorem dX9_isThere_25 : am_at cX9_isThere 25 (.ifCond .eq 7) 3 28 := by decide +kernel
theorem dX9_isThere_28 : am_at cX9_isThere 28 (.iconst 1) 1 29 := by decide +kernel
theorem dX9_isThere_29 : am_at cX9_isThere 29 (.goto 4) 3 32 := by decide +kernel
theorem dX9_isThere_32 : am_at cX9_isThere 32 (.iconst 0) 1 33 := by decide +kernel
theorem dX9_isThere_33 : am_at cX9_isThere 33 (.ireturn) 1 34 := by decide +kernel
def fxX9_isThere_b28 (h : am_H) : Option (Int32 × am_H) := am_gd (am_bz (1 : Int32)) (some ((1 : Int32), h))
set_option maxRecDepth 100000 in
theorem sxX9_isThere_b28 {xs : List Int32} (h : am_H) : am_Sm xs am_ci mX9_isThere 2 0 0 28 [none, none, none] [] h (fxX9_isThere_b28 h) := by
  unfold fxX9_isThere_b28
  refine am_iconst (v := 1) dX9_isThere_28 (by decide) ?_
  refine am_goto (tgt := 33) dX9_isThere_29 (by decide) ?_
  exact am_zret dX9_isThere_33 rfl rfl
def fxX9_isThere (l0 : Option Nat) (l1 : Int32) (l2 : Int32) (h : am_H) : Option (Int32 × am_H) := if l1 = (1 : Int32) then (am_gd (am_ob h l0 9) (am_gd (am_ob h (am_gr h l0 0) 2) (am_bd (fxX2_hasGlove (am_gr h l0 0) l2 h) (fun r5 h6 => am_gd (am_bz r5) (some (r5, h6)))))) else (if l1 = (2 : Int32) then (am_bd (fxX9_within l2 (0 : Int32) (3 : Int32) h) (fun r1 h2 => if r1 = 0 then (am_gd (am_bz (0 : Int32)) (some ((0 : Int32), h2))) else (fxX9_isThere_b28 h2))) else (fxX9_isThere_b28 h))
set_option maxRecDepth 100000 in
theorem sxX9_isThere {xs : List Int32} (l0 : Option Nat) (l1 : Int32) (l2 : Int32) (h : am_H) : am_Sm xs am_ci mX9_isThere 2 0 0 0 [some (am_R l0), some (am_I l1), some (am_I l2)] [] h (fxX9_isThere l0 l1 l2 h) := by
  unfold fxX9_isThere
  refine am_iload_n dX9_isThere_0 rfl ?_
  refine am_iconst (v := 1) dX9_isThere_1 (by decide) ?_
  refine am_icmp_ne (tgt := 14) dX9_isThere_2 (by decide) (fun c7 => ?_) (fun c7 => ?_)
  · refine am_iload_n dX9_isThere_14 rfl ?_
    refine am_iconst (v := 2) dX9_isThere_15 (by decide) ?_
    refine am_icmp_ne (tgt := 28) dX9_isThere_16 (by decide) (fun c4 => ?_) (fun c4 => ?_)
    · exact am_weak (sxX9_isThere_b28 h) trivial (Nat.le_refl _) (Nat.le_refl _)
    refine am_iload_n dX9_isThere_19 rfl ?_
    refine am_iconst (v := 0) dX9_isThere_20 (by decide) ?_
    refine am_iconst (v := 3) dX9_isThere_21 (by decide) ?_
    refine am_callS (cvj := am_ci) (mtj := mX9_within) (dj := 0) (nj := 3) (rcj := 0) (rsj := 0) (rc' := 0) (rs' := 0) (st' := fun a9 => (am_I a9 :: [])) [am_I l2, am_I (0 : Int32), am_I (3 : Int32)] [] dX9_isThere_22 okX9_within lk_RX9_80 (fun zA zH zE => txX9_within l2 (0 : Int32) (3 : Int32) h zA zH zE) rfl (fun _ => rfl) (by decide) rfl (Nat.le_of_ble_eq_true rfl) (by decide) (by decide) (fun r1 h2 => ?_)
    refine am_if_eq (tgt := 32) dX9_isThere_25 (by decide) (fun c3 => ?_) (fun c3 => ?_)
    · refine am_iconst (v := 0) dX9_isThere_32 (by decide) ?_
      exact am_zret dX9_isThere_33 rfl rfl
    exact am_weak (sxX9_isThere_b28 h2) trivial (Nat.le_refl _) (Nat.le_refl _)
  refine am_aload_n dX9_isThere_5 rfl ?_
  refine am_getR dX9_isThere_6 fk_RX9_10 rfl ?_
  refine am_iload_n dX9_isThere_9 rfl ?_
  refine am_callV (cvj := am_ci) (mtj := mX2_hasGlove) (dj := 1) (nj := 1) (rcj := 0) (rsj := 0) (rc' := 0) (rs' := 0) (ci := 2) (st' := fun a9 => (am_I a9 :: [])) ⟨_, rfl, rfl⟩ [am_I l2] [] dX9_isThere_10 okX2_hasGlove lk_RX9_89 (fun zA zH zE => txX2_hasGlove (am_gr h l0 0) l2 h zA zH zE) rfl (fun _ => rfl) (by decide) rfl (Nat.le_of_ble_eq_true rfl) (by decide) (by decide) (fun r5 h6 => ?_)
  exact am_zret dX9_isThere_13 rfl rfl
theorem txX9_isThere {xs : List Int32} (l0 : Option Nat) (l1 : Int32) (l2 : Int32) (h : am_H) (a : Int32) (h2 : am_H) (e : fxX9_isThere l0 l1 l2 h = some (a, h2)) : am_Ct xs mX9_isThere 2 0 0 [am_R l0, am_I l1, am_I l2] h (fun v h3 => v = am_ci a ∧ h3 = h2) := am_meth okX9_isThere (Nat.le_of_ble_eq_true rfl) rfl (sxX9_isThere l0 l1 l2 h) e
theorem dX9_lay_0 : am_at cX9_lay 0 (.iload_n 1) 1 1 := by decide +kernel
theorem dX9_lay_1 : am_at cX9_lay 1 (.invokestatic 299) 3 4 := by decide +kernel
theorem dX9_lay_4 : am_at cX9_lay 4 (.ifCond .eq 21) 3 7 := by decide +kernel
theorem dX9_lay_7 : am_at cX9_lay 7 (.iload_n 2) 1 8 := by decide +kernel
theorem dX9_lay_8 : am_at cX9_lay 8 (.iconst 0) 1 9 := by decide +kernel
theorem dX9_lay_9 : am_at cX9_lay 9 (.iconst 3) 1 10 := by decide +kernel
theorem dX9_lay_10 : am_at cX9_lay 10 (.invokestatic 80) 3 13 := by decide +kernel
theorem dX9_lay_13 : am_at cX9_lay 13 (.ifCond .eq 12) 3 16 := by decide +kernel
theorem dX9_lay_16 : am_at cX9_lay 16 (.aload_n 0) 1 17 := by decide +kernel
theorem dX9_lay_17 : am_at cX9_lay 17 (.iload_n 2) 1 18 := by decide +kernel
theorem dX9_lay_18 : am_at cX9_lay 18 (.iload_n 3) 1 19 := by decide +kernel
theorem dX9_lay_19 : am_at cX9_lay 19 (.invokevirtual 302) 3 22 := by decide +kernel
theorem dX9_lay_22 : am_at cX9_lay 22 (.ifCond .ne 6) 3 25 := by decide +kernel
theorem dX9_lay_25 : am_at cX9_lay 25 (.ldc 84) 2 27 := by decide +kernel
theorem dX9_lay_27 : am_at cX9_lay 27 (.ireturn) 1 28 := by decide +kernel
theorem dX9_lay_28 : am_at cX9_lay 28 (.iload_n 2) 1 29 := by decide +kernel
theorem dX9_lay_29 : am_at cX9_lay 29 (.iconst 2) 1 30 := by decide +kernel
theorem dX9_lay_30 : am_at cX9_lay 30 (.if_icmp .ne 18) 3 33 := by decide +kernel
theorem dX9_lay_33 : am_at cX9_lay 33 (.aload_n 0) 1 34 := by decide +kernel
theorem dX9_lay_34 : am_at cX9_lay 34 (.getfield 56) 3 37 := by decide +kernel
theorem dX9_lay_37 : am_at cX9_lay 37 (.iload_n 3) 1 38 := by decide +kernel
theorem dX9_lay_38 : am_at cX9_lay 38 (.aaload) 1 39 := by decide +kernel
theorem dX9_lay_39 : am_at cX9_lay 39 (.invokevirtual 167) 3 42 := by decide +kernel
theorem dX9_lay_42 : am_at cX9_lay 42 (.ifCond .eq 6) 3 45 := by decide +kernel
theorem dX9_lay_45 : am_at cX9_lay 45 (.ldc 171) 2 47 := by decide +kernel
theorem dX9_lay_47 : am_at cX9_lay 47 (.ireturn) 1 48 := by decide +kernel
theorem dX9_lay_48 : am_at cX9_lay 48 (.aload_n 0) 1 49 := by decide +kernel
theorem dX9_lay_49 : am_at cX9_lay 49 (.getfield 63) 3 52 := by decide +kernel
theorem dX9_lay_52 : am_at cX9_lay 52 (.iload_n 1) 1 53 := by decide +kernel
theorem dX9_lay_53 : am_at cX9_lay 53 (.aaload) 1 54 := by decide +kernel
theorem dX9_lay_54 : am_at cX9_lay 54 (.astore 4) 2 56 := by decide +kernel
theorem dX9_lay_56 : am_at cX9_lay 56 (.aload 4) 2 58 := by decide +kernel
theorem dX9_lay_58 : am_at cX9_lay 58 (.getfield 305) 3 61 := by decide +kernel
theorem dX9_lay_61 : am_at cX9_lay 61 (.istore 5) 2 63 := by decide +kernel
theorem dX9_lay_63 : am_at cX9_lay 63 (.aload 4) 2 65 := by decide +kernel
theorem dX9_lay_65 : am_at cX9_lay 65 (.iload_n 2) 1 66 := by decide +kernel
theorem dX9_lay_66 : am_at cX9_lay 66 (.putfield 305) 3 69 := by decide +kernel
theorem dX9_lay_69 : am_at cX9_lay 69 (.iload_n 2) 1 70 := by decide +kernel
theorem dX9_lay_70 : am_at cX9_lay 70 (.iconst 1) 1 71 := by decide +kernel
theorem dX9_lay_71 : am_at cX9_lay 71 (.if_icmp .ne 23) 3 74 := by decide +kernel
theorem dX9_lay_74 : am_at cX9_lay 74 (.aload 4) 2 76 := by decide +kernel
theorem dX9_lay_76 : am_at cX9_lay 76 (.getfield 308) 3 79 := by decide +kernel
theorem dX9_lay_79 : am_at cX9_lay 79 (.aload_n 0) 1 80 := by decide +kernel
theorem dX9_lay_80 : am_at cX9_lay 80 (.getfield 10) 3 83 := by decide +kernel
theorem dX9_lay_83 : am_at cX9_lay 83 (.getfield 92) 3 86 := by decide +kernel
theorem dX9_lay_86 : am_at cX9_lay 86 (.iload_n 3) 1 87 := by decide +kernel
theorem dX9_lay_87 : am_at cX9_lay 87 (.aaload) 1 88 := by decide +kernel
theorem dX9_lay_88 : am_at cX9_lay 88 (.invokevirtual 312) 3 91 := by decide +kernel
theorem dX9_lay_91 : am_at cX9_lay 91 (.goto 36) 3 94 := by decide +kernel
theorem dX9_lay_94 : am_at cX9_lay 94 (.iload_n 2) 1 95 := by decide +kernel
theorem dX9_lay_95 : am_at cX9_lay 95 (.iconst 2) 1 96 := by decide +kernel
theorem dX9_lay_96 : am_at cX9_lay 96 (.if_icmp .ne 20) 3 99 := by decide +kernel
theorem dX9_lay_99 : am_at cX9_lay 99 (.aload 4) 2 101 := by decide +kernel
theorem dX9_lay_101 : am_at cX9_lay 101 (.getfield 315) 3 104 := by decide +kernel
theorem dX9_lay_104 : am_at cX9_lay 104 (.aload_n 0) 1 105 := by decide +kernel
theorem dX9_lay_105 : am_at cX9_lay 105 (.getfield 56) 3 108 := by decide +kernel
theorem dX9_lay_108 : am_at cX9_lay 108 (.iload_n 3) 1 109 := by decide +kernel
theorem dX9_lay_109 : am_at cX9_lay 109 (.aaload) 1 110 := by decide +kernel
theorem dX9_lay_110 : am_at cX9_lay 110 (.invokevirtual 319) 3 113 := by decide +kernel
theorem dX9_lay_113 : am_at cX9_lay 113 (.goto 14) 3 116 := by decide +kernel
theorem dX9_lay_116 : am_at cX9_lay 116 (.iload_n 2) 1 117 := by decide +kernel
theorem dX9_lay_117 : am_at cX9_lay 117 (.iconst 3) 1 118 := by decide +kernel
theorem dX9_lay_118 : am_at cX9_lay 118 (.if_icmp .ne 9) 3 121 := by decide +kernel
theorem dX9_lay_121 : am_at cX9_lay 121 (.aload 4) 2 123 := by decide +kernel
theorem dX9_lay_123 : am_at cX9_lay 123 (.iload_n 3) 1 124 := by decide +kernel
theorem dX9_lay_124 : am_at cX9_lay 124 (.putfield 321) 3 127 := by decide +kernel
theorem dX9_lay_127 : am_at cX9_lay 127 (.iload 5) 2 129 := by decide +kernel
theorem dX9_lay_129 : am_at cX9_lay 129 (.ireturn) 1 130 := by decide +kernel
def fxX9_lay_b48 (l0 : Option Nat) (l1 : Int32) (l2 : Int32) (l3 : Int32) (h : am_H) : Option (Int32 × am_H) := am_gd (am_ob h l0 9) (am_gd (am_ix h (am_gr h l0 9) 6 l1) (am_lt (am_gr h (am_gr h l0 9) l1.toNatClampNeg) (fun q14 => am_gd (am_ob h q14 6) (am_lt (am_gi h q14 0) (fun x15 => am_gd (am_ob h q14 6) (am_lt (am_si h q14 0 l2) (fun h16 => if l2 = (1 : Int32) then (am_gd (am_ob h16 q14 6) (am_gd (am_ob h16 l0 9) (am_gd (am_ob h16 (am_gr h16 l0 0) 2) (am_gd (am_ix h16 (am_gr h16 (am_gr h16 l0 0) 0) 3 l3) (am_gd (am_ob h16 (am_gr h16 q14 1) 1) (am_bd (fxX1_takeAfter (am_gr h16 q14 1) (am_gr h16 (am_gr h16 (am_gr h16 l0 0) 0) l3.toNatClampNeg) h16) (fun _ h21 => some (x15, h21)))))))) else (if l2 = (2 : Int32) then (am_gd (am_ob h16 q14 6) (am_gd (am_ob h16 l0 9) (am_gd (am_ix h16 (am_gr h16 l0 8) 5 l3) (am_gd (am_ob h16 (am_gr h16 q14 2) 5) (am_bd (fxX5_takeAfter (am_gr h16 q14 2) (am_gr h16 (am_gr h16 l0 8) l3.toNatClampNeg) h16) (fun _ h19 => some (x15, h19))))))) else (if l2 = (3 : Int32) then (am_gd (am_ob h16 q14 6) (am_lt (am_si h16 q14 3 l3) (fun h17 => some (x15, h17)))) else (some (x15, h16)))))))))))
set_option maxRecDepth 100000 in
theorem sxX9_lay_b48 {xs : List Int32} (l0 : Option Nat) (l1 : Int32) (l2 : Int32) (l3 : Int32) (h : am_H) : am_Sm xs am_ci mX9_lay 3 0 0 48 [some (am_R l0), some (am_I l1), some (am_I l2), some (am_I l3), none, none] [] h (fxX9_lay_b48 l0 l1 l2 l3 h) := by
  unfold fxX9_lay_b48
  refine am_aload_n dX9_lay_48 rfl ?_
  refine am_getR dX9_lay_49 fk_RX9_63 rfl ?_
  refine am_iload_n dX9_lay_52 rfl ?_
  refine am_aald (t := 6) dX9_lay_53 (by decide) (by decide) ?_
  refine am_astore (LL := fun y9 => [some (am_R l0), some (am_I l1), some (am_I l2), some (am_I l3), some (am_R y9), none]) dX9_lay_54 (by decide) (fun _ => rfl) (fun q14 => ?_)
  refine am_aload dX9_lay_56 rfl ?_
  refine am_getI dX9_lay_58 fk_RX9_305 rfl ?_
  refine am_istore (LL := fun y9 => [some (am_R l0), some (am_I l1), some (am_I l2), some (am_I l3), some (am_R q14), some (am_I y9)]) dX9_lay_61 (by decide) (fun _ => rfl) (fun x15 => ?_)
  refine am_aload dX9_lay_63 rfl ?_
  refine am_iload_n dX9_lay_65 rfl ?_
  refine am_putI dX9_lay_66 fk_RX9_305 ⟨_, rfl, Or.inl rfl⟩ rfl (fun h16 => ?_)
  refine am_iload_n dX9_lay_69 rfl ?_
  refine am_iconst (v := 1) dX9_lay_70 (by decide) ?_
  refine am_icmp_ne (tgt := 94) dX9_lay_71 (by decide) (fun c22 => ?_) (fun c22 => ?_)
  · refine am_iload_n dX9_lay_94 rfl ?_
    refine am_iconst (v := 2) dX9_lay_95 (by decide) ?_
    refine am_icmp_ne (tgt := 116) dX9_lay_96 (by decide) (fun c20 => ?_) (fun c20 => ?_)
    · refine am_iload_n dX9_lay_116 rfl ?_
      refine am_iconst (v := 3) dX9_lay_117 (by decide) ?_
      refine am_icmp_ne (tgt := 127) dX9_lay_118 (by decide) (fun c18 => ?_) (fun c18 => ?_)
      · refine am_iload dX9_lay_127 rfl ?_
        exact am_iret dX9_lay_129 rfl rfl
      refine am_aload dX9_lay_121 rfl ?_
      refine am_iload_n dX9_lay_123 rfl ?_
      refine am_putI dX9_lay_124 fk_RX9_321 ⟨_, rfl, Or.inl rfl⟩ rfl (fun h17 => ?_)
      refine am_iload dX9_lay_127 rfl ?_
      exact am_iret dX9_lay_129 rfl rfl
    refine am_aload dX9_lay_99 rfl ?_
    refine am_getR dX9_lay_101 fk_RX9_315 rfl ?_
    refine am_aload_n dX9_lay_104 rfl ?_
    refine am_getR dX9_lay_105 fk_RX9_56 rfl ?_
    refine am_iload_n dX9_lay_108 rfl ?_
    refine am_aald (t := 5) dX9_lay_109 (by decide) (by decide) ?_
    refine am_callV (cvj := am_cu) (mtj := mX5_takeAfter) (dj := 1) (nj := 1) (rcj := 0) (rsj := 0) (rc' := 0) (rs' := 0) (ci := 5) (st' := fun _ => []) ⟨_, rfl, rfl⟩ [am_R (am_gr h16 (am_gr h16 l0 8) l3.toNatClampNeg)] [] dX9_lay_110 okX5_takeAfter lk_RX9_319 (fun zA zH zE => txX5_takeAfter (am_gr h16 q14 2) (am_gr h16 (am_gr h16 l0 8) l3.toNatClampNeg) h16 zA zH zE) rfl (fun _ => rfl) (by decide) rfl (Nat.le_of_ble_eq_true rfl) (by decide) (by decide) (fun _ h19 => ?_)
    refine am_goto (tgt := 127) dX9_lay_113 (by decide) ?_
    refine am_iload dX9_lay_127 rfl ?_
    exact am_iret dX9_lay_129 rfl rfl
  refine am_aload dX9_lay_74 rfl ?_
  refine am_getR dX9_lay_76 fk_RX9_308 rfl ?_
  refine am_aload_n dX9_lay_79 rfl ?_
  refine am_getR dX9_lay_80 fk_RX9_10 rfl ?_
  refine am_getR dX9_lay_83 fk_RX9_92 rfl ?_
  refine am_iload_n dX9_lay_86 rfl ?_
  refine am_aald (t := 3) dX9_lay_87 (by decide) (by decide) ?_
  refine am_callV (cvj := am_cu) (mtj := mX1_takeAfter) (dj := 1) (nj := 1) (rcj := 0) (rsj := 0) (rc' := 0) (rs' := 0) (ci := 1) (st' := fun _ => []) ⟨_, rfl, rfl⟩ [am_R (am_gr h16 (am_gr h16 (am_gr h16 l0 0) 0) l3.toNatClampNeg)] [] dX9_lay_88 okX1_takeAfter lk_RX9_312 (fun zA zH zE => txX1_takeAfter (am_gr h16 q14 1) (am_gr h16 (am_gr h16 (am_gr h16 l0 0) 0) l3.toNatClampNeg) h16 zA zH zE) rfl (fun _ => rfl) (by decide) rfl (Nat.le_of_ble_eq_true rfl) (by decide) (by decide) (fun _ h21 => ?_)
  refine am_goto (tgt := 127) dX9_lay_91 (by decide) ?_
  refine am_iload dX9_lay_127 rfl ?_
  exact am_iret dX9_lay_129 rfl rfl
def fxX9_lay (l0 : Option Nat) (l1 : Int32) (l2 : Int32) (l3 : Int32) (h : am_H) : Option (Int32 × am_H) := am_bd (fxX9_isSlot l1 h) (fun r1 h2 => if r1 = 0 then (some ((-1000000001 : Int32), h2)) else (am_bd (fxX9_within l2 (0 : Int32) (3 : Int32) h2) (fun r3 h4 => if r3 = 0 then (some ((-1000000001 : Int32), h4)) else (am_gd (am_ob h4 l0 9) (am_bd (fxX9_isThere l0 l2 l3 h4) (fun r5 h6 => if r5 = 0 then (some ((-1000000001 : Int32), h6)) else (if l2 = (2 : Int32) then (am_gd (am_ob h6 l0 9) (am_gd (am_ix h6 (am_gr h6 l0 8) 5 l3) (am_gd (am_ob h6 (am_gr h6 (am_gr h6 l0 8) l3.toNatClampNeg) 5) (am_bd (fxX5_isMissing (am_gr h6 (am_gr h6 l0 8) l3.toNatClampNeg) h6) (fun r7 h8 => if r7 = 0 then (fxX9_lay_b48 l0 l1 l2 l3 h8) else (some ((-1000000011 : Int32), h8))))))) else (fxX9_lay_b48 l0 l1 l2 l3 h6))))))))
set_option maxRecDepth 100000 in
theorem sxX9_lay {xs : List Int32} (l0 : Option Nat) (l1 : Int32) (l2 : Int32) (l3 : Int32) (h : am_H) : am_Sm xs am_ci mX9_lay 3 0 0 0 [some (am_R l0), some (am_I l1), some (am_I l2), some (am_I l3), none, none] [] h (fxX9_lay l0 l1 l2 l3 h) := by
  unfold fxX9_lay
  refine am_iload_n dX9_lay_0 rfl ?_
  refine am_callS (cvj := am_ci) (mtj := mX9_isSlot) (dj := 1) (nj := 1) (rcj := 0) (rsj := 0) (rc' := 0) (rs' := 0) (st' := fun a9 => (am_I a9 :: [])) [am_I l1] [] dX9_lay_1 okX9_isSlot lk_RX9_299 (fun zA zH zE => txX9_isSlot l1 h zA zH zE) rfl (fun _ => rfl) (by decide) rfl (Nat.le_of_ble_eq_true rfl) (by decide) (by decide) (fun r1 h2 => ?_)
  refine am_if_eq (tgt := 25) dX9_lay_4 (by decide) (fun c13 => ?_) (fun c13 => ?_)
  · refine am_ldc (v := (-1000000001)) dX9_lay_25 wd316 ?_
    exact am_iret dX9_lay_27 rfl rfl
  refine am_iload_n dX9_lay_7 rfl ?_
  refine am_iconst (v := 0) dX9_lay_8 (by decide) ?_
  refine am_iconst (v := 3) dX9_lay_9 (by decide) ?_
  refine am_callS (cvj := am_ci) (mtj := mX9_within) (dj := 0) (nj := 3) (rcj := 0) (rsj := 0) (rc' := 0) (rs' := 0) (st' := fun a9 => (am_I a9 :: [])) [am_I l2, am_I (0 : Int32), am_I (3 : Int32)] [] dX9_lay_10 okX9_within lk_RX9_80 (fun zA zH zE => txX9_within l2 (0 : Int32) (3 : Int32) h2 zA zH zE) rfl (fun _ => rfl) (by decide) rfl (Nat.le_of_ble_eq_true rfl) (by decide) (by decide) (fun r3 h4 => ?_)
  refine am_if_eq (tgt := 25) dX9_lay_13 (by decide) (fun c12 => ?_) (fun c12 => ?_)
  · refine am_ldc (v := (-1000000001)) dX9_lay_25 wd316 ?_
    exact am_iret dX9_lay_27 rfl rfl
  refine am_aload_n dX9_lay_16 rfl ?_
  refine am_iload_n dX9_lay_17 rfl ?_
  refine am_iload_n dX9_lay_18 rfl ?_
  refine am_callV (cvj := am_ci) (mtj := mX9_isThere) (dj := 2) (nj := 2) (rcj := 0) (rsj := 0) (rc' := 0) (rs' := 0) (ci := 9) (st' := fun a9 => (am_I a9 :: [])) ⟨_, rfl, rfl⟩ [am_I l2, am_I l3] [] dX9_lay_19 okX9_isThere lk_RX9_302 (fun zA zH zE => txX9_isThere l0 l2 l3 h4 zA zH zE) rfl (fun _ => rfl) (by decide) rfl (Nat.le_of_ble_eq_true rfl) (by decide) (by decide) (fun r5 h6 => ?_)
  refine am_if_ne (tgt := 28) dX9_lay_22 (by decide) (fun c11 => ?_) (fun c11 => ?_)
  · refine am_iload_n dX9_lay_28 rfl ?_
    refine am_iconst (v := 2) dX9_lay_29 (by decide) ?_
    refine am_icmp_ne (tgt := 48) dX9_lay_30 (by decide) (fun c10 => ?_) (fun c10 => ?_)
    · exact am_weak (sxX9_lay_b48 l0 l1 l2 l3 h6) ⟨rfl, ⟨rfl, ⟨rfl, ⟨rfl, trivial⟩⟩⟩⟩ (Nat.le_refl _) (Nat.le_refl _)
    refine am_aload_n dX9_lay_33 rfl ?_
    refine am_getR dX9_lay_34 fk_RX9_56 rfl ?_
    refine am_iload_n dX9_lay_37 rfl ?_
    refine am_aald (t := 5) dX9_lay_38 (by decide) (by decide) ?_
    refine am_callV (cvj := am_ci) (mtj := mX5_isMissing) (dj := 0) (nj := 0) (rcj := 0) (rsj := 0) (rc' := 0) (rs' := 0) (ci := 5) (st' := fun a9 => (am_I a9 :: [])) ⟨_, rfl, rfl⟩ [] [] dX9_lay_39 okX5_isMissing lk_RX9_167 (fun zA zH zE => txX5_isMissing (am_gr h6 (am_gr h6 l0 8) l3.toNatClampNeg) h6 zA zH zE) rfl (fun _ => rfl) (by decide) rfl (Nat.le_of_ble_eq_true rfl) (by decide) (by decide) (fun r7 h8 => ?_)
    refine am_if_eq (tgt := 48) dX9_lay_42 (by decide) (fun c9 => ?_) (fun c9 => ?_)
    · exact am_weak (sxX9_lay_b48 l0 l1 l2 l3 h8) ⟨rfl, ⟨rfl, ⟨rfl, ⟨rfl, trivial⟩⟩⟩⟩ (Nat.le_refl _) (Nat.le_refl _)
    refine am_ldc (v := (-1000000011)) dX9_lay_45 wd499 ?_
    exact am_iret dX9_lay_47 rfl rfl
  refine am_ldc (v := (-1000000001)) dX9_lay_25 wd316 ?_
  exact am_iret dX9_lay_27 rfl rfl
theorem txX9_lay {xs : List Int32} (l0 : Option Nat) (l1 : Int32) (l2 : Int32) (l3 : Int32) (h : am_H) (a : Int32) (h2 : am_H) (e : fxX9_lay l0 l1 l2 l3 h = some (a, h2)) : am_Ct xs mX9_lay 3 0 0 [am_R l0, am_I l1, am_I l2, am_I l3] h (fun v h3 => v = am_ci a ∧ h3 = h2) := am_meth okX9_lay (Nat.le_of_ble_eq_true rfl) rfl (sxX9_lay l0 l1 l2 l3 h) e
