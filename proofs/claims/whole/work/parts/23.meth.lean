theorem dX8_level_0 : am_at cX8_level 0 (.iload_n 1) 1 1 := by decide +kernel
theorem dX8_level_1 : am_at cX8_level 1 (.iconst 5) 1 2 := by decide +kernel
theorem dX8_level_2 : am_at cX8_level 2 (.if_icmp .lt 10) 3 5 := by decide +kernel
theorem dX8_level_5 : am_at cX8_level 5 (.aload_n 0) 1 6 := by decide +kernel
theorem dX8_level_6 : am_at cX8_level 6 (.iload_n 2) 1 7 := by decide +kernel
theorem dX8_level_7 : am_at cX8_level 7 (.iload_n 3) 1 8 := by decide +kernel
theorem dX8_level_8 : am_at cX8_level 8 (.invokevirtual 81) 3 11 := by decide +kernel
theorem dX8_level_11 : am_at cX8_level 11 (.return_) 1 12 := by decide +kernel
theorem dX8_level_12 : am_at cX8_level 12 (.aload_n 0) 1 13 := by decide +kernel
theorem dX8_level_13 : am_at cX8_level 13 (.iload_n 1) 1 14 := by decide +kernel
theorem dX8_level_14 : am_at cX8_level 14 (.iconst 1) 1 15 := by decide +kernel
theorem dX8_level_15 : am_at cX8_level 15 (.iadd) 1 16 := by decide +kernel
theorem dX8_level_16 : am_at cX8_level 16 (.iload_n 2) 1 17 := by decide +kernel
theorem dX8_level_17 : am_at cX8_level 17 (.iload_n 3) 1 18 := by decide +kernel
theorem dX8_level_18 : am_at cX8_level 18 (.invokevirtual 48) 3 21 := by decide +kernel
theorem dX8_level_21 : am_at cX8_level 21 (.iconst 0) 1 22 := by decide +kernel
theorem dX8_level_22 : am_at cX8_level 22 (.istore 4) 2 24 := by decide +kernel
theorem dX8_level_24 : am_at cX8_level 24 (.iload 4) 2 26 := by decide +kernel
theorem dX8_level_26 : am_at cX8_level 26 (.bipush 96) 2 28 := by decide +kernel
theorem dX8_level_28 : am_at cX8_level 28 (.if_icmp .ge 63) 3 31 := by decide +kernel
theorem dX8_level_31 : am_at cX8_level 31 (.aload_n 0) 1 32 := by decide +kernel
theorem dX8_level_32 : am_at cX8_level 32 (.getfield 26) 3 35 := by decide +kernel
theorem dX8_level_35 : am_at cX8_level 35 (.iconst (-1)) 1 36 := by decide +kernel
theorem dX8_level_36 : am_at cX8_level 36 (.if_icmp .ne 55) 3 39 := by decide +kernel
theorem dX8_level_39 : am_at cX8_level 39 (.aload_n 0) 1 40 := by decide +kernel
theorem dX8_level_40 : am_at cX8_level 40 (.invokevirtual 85) 3 43 := by decide +kernel
theorem dX8_level_43 : am_at cX8_level 43 (.invokestatic 88) 3 46 := by decide +kernel
theorem dX8_level_46 : am_at cX8_level 46 (.iload_n 1) 1 47 := by decide +kernel
theorem dX8_level_47 : am_at cX8_level 47 (.if_icmp .ne 44) 3 50 := by decide +kernel
theorem dX8_level_50 : am_at cX8_level 50 (.aload_n 0) 1 51 := by decide +kernel
theorem dX8_level_51 : am_at cX8_level 51 (.invokevirtual 85) 3 54 := by decide +kernel
theorem dX8_level_54 : am_at cX8_level 54 (.istore 5) 2 56 := by decide +kernel
theorem dX8_level_56 : am_at cX8_level 56 (.aload_n 0) 1 57 := by decide +kernel
theorem dX8_level_57 : am_at cX8_level 57 (.invokevirtual 42) 3 60 := by decide +kernel
theorem dX8_level_60 : am_at cX8_level 60 (.aload_n 0) 1 61 := by decide +kernel
theorem dX8_level_61 : am_at cX8_level 61 (.iload_n 1) 1 62 := by decide +kernel
theorem dX8_level_62 : am_at cX8_level 62 (.iconst 1) 1 63 := by decide +kernel
theorem dX8_level_63 : am_at cX8_level 63 (.iadd) 1 64 := by decide +kernel
theorem dX8_level_64 : am_at cX8_level 64 (.iload_n 2) 1 65 := by decide +kernel
theorem dX8_level_65 : am_at cX8_level 65 (.iload_n 3) 1 66 := by decide +kernel
theorem dX8_level_66 : am_at cX8_level 66 (.invokevirtual 48) 3 69 := by decide +kernel
theorem dX8_level_69 : am_at cX8_level 69 (.aload_n 0) 1 70 := by decide +kernel
theorem dX8_level_70 : am_at cX8_level 70 (.getfield 22) 3 73 := by decide +kernel
theorem dX8_level_73 : am_at cX8_level 73 (.iload 5) 2 75 := by decide +kernel
theorem dX8_level_75 : am_at cX8_level 75 (.ineg) 1 76 := by decide +kernel
theorem dX8_level_76 : am_at cX8_level 76 (.invokevirtual 91) 3 79 := by decide +kernel
theorem dX8_level_79 : am_at cX8_level 79 (.iload_n 1) 1 80 := by decide +kernel
theorem dX8_level_80 : am_at cX8_level 80 (.iconst 2) 1 81 := by decide +kernel
theorem dX8_level_81 : am_at cX8_level 81 (.if_icmp .ne 4) 3 84 := by decide +kernel
theorem dX8_level_84 : am_at cX8_level 84 (.return_) 1 85 := by decide +kernel
theorem dX8_level_85 : am_at cX8_level 85 (.iinc 4 1) 3 88 := by decide +kernel
theorem dX8_level_88 : am_at cX8_level 88 (.goto (-64)) 3 91 := by decide +kernel
theorem dX8_level_91 : am_at cX8_level 91 (.return_) 1 92 := by decide +kernel
def fxX8_levelF_b24 (fL : Option Nat → Int32 → Int32 → Int32 → am_H → Option (Unit × am_H)) (fP : Option Nat → Int32 → Int32 → am_H → Option (Unit × am_H)) : Nat → Option Nat → Int32 → Int32 → Int32 → Int32 → am_H → Option (Unit × am_H)
  | 0, _, _, _, _, _, _ => none
  | n + 1, l0, l1, l2, l3, l4, h => if (96 : Int32) ≤ l4 then (some ((), h)) else (am_gd (am_ob h l0 8) (if (am_gi h l0 3) = (-1 : Int32) then (am_gd (am_ob h l0 8) (am_bd (fxX8_sign l0 h) (fun r5 h6 => am_bd (fxX8_levelOf r5 h6) (fun r7 h8 => if r7 = l1 then (am_gd (am_ob h8 l0 8) (am_bd (fxX8_sign l0 h8) (fun r9 h10 => am_lt r9 (fun x11 => am_gd (am_ob h10 l0 8) (am_bd (fxX8_next l0 h10) (fun _ h12 => am_gd (am_ob h12 l0 8) (am_bd (fL l0 (l1 + (1 : Int32)) l2 l3 h12) (fun _ h13 => am_gd (am_ob h13 l0 8) (am_gd (am_ob h13 (am_gr h13 l0 2) 3) (am_bd (fxX3_addCode (am_gr h13 l0 2) (-x11) h13) (fun _ h14 => if l1 = (2 : Int32) then (some ((), h14)) else (am_lt (l4 + 1) (fun x15 => fxX8_levelF_b24 fL fP n l0 l1 l2 l3 x15 h14))))))))))))) else (some ((), h8)))))) else (some ((), h))))
set_option maxRecDepth 100000 in
theorem sxX8_levelF_b24 {xs : List Int32} {n9 : Nat} (fL : Option Nat → Int32 → Int32 → Int32 → am_H → Option (Unit × am_H)) (hL : ∀ (l0 : Option Nat) (l1 l2 l3 : Int32) (h : am_H) (a : Unit) (h2 : am_H), fL l0 l1 l2 l3 h = some (a, h2) → am_Ct xs mX8_level (6 * n9) 0 0 [am_R l0, am_I l1, am_I l2, am_I l3] h (fun v h3 => v = am_cu a ∧ h3 = h2)) (fP : Option Nat → Int32 → Int32 → am_H → Option (Unit × am_H)) (hP : ∀ (l0 : Option Nat) (l1 l2 : Int32) (h : am_H) (a : Unit) (h2 : am_H), fP l0 l1 l2 h = some (a, h2) → am_Ct xs mX8_piece (6 * n9) 0 0 [am_R l0, am_I l1, am_I l2] h (fun v h3 => v = am_cu a ∧ h3 = h2)) : ∀ (n : Nat) (l0 : Option Nat) (l1 : Int32) (l2 : Int32) (l3 : Int32) (l4 : Int32) (h : am_H), am_Sm xs am_cu mX8_level (6 * (n9 + 1)) 0 0 24 [some (am_R l0), some (am_I l1), some (am_I l2), some (am_I l3), some (am_I l4), none] [] h (fxX8_levelF_b24 fL fP n l0 l1 l2 l3 l4 h) := by
  intro n
  induction n with
  | zero => intros; exact am_none
  | succ n ih =>
    intro l0 l1 l2 l3 l4 h
    rw [fxX8_levelF_b24]
    refine am_iload dX8_level_24 rfl ?_
    refine am_bipush (v := 96) dX8_level_26 (by decide) ?_
    refine am_icmp_ge (tgt := 91) dX8_level_28 (by decide) (fun c19 => ?_) (fun c19 => ?_)
    · exact am_vret dX8_level_91 rfl rfl
    refine am_aload_n dX8_level_31 rfl ?_
    refine am_getI dX8_level_32 fk_RX8_26 rfl ?_
    refine am_iconst (v := (-1)) dX8_level_35 (by decide) ?_
    refine am_icmp_ne (tgt := 91) dX8_level_36 (by decide) (fun c18 => ?_) (fun c18 => ?_)
    · exact am_vret dX8_level_91 rfl rfl
    refine am_aload_n dX8_level_39 rfl ?_
    refine am_callV (cvj := am_ci) (mtj := mX8_sign) (dj := 0) (nj := 0) (rcj := 0) (rsj := 0) (rc' := 0) (rs' := 0) (ci := 8) (st' := fun a9 => (am_I a9 :: [])) ⟨_, rfl, rfl⟩ [] [] dX8_level_40 okX8_sign lk_RX8_85 (fun zA zH zE => txX8_sign l0 h zA zH zE) rfl (fun _ => rfl) (by omega) rfl (Nat.le_of_ble_eq_true rfl) (by decide) (by decide) (fun r5 h6 => ?_)
    refine am_callS (cvj := am_ci) (mtj := mX8_levelOf) (dj := 0) (nj := 1) (rcj := 0) (rsj := 0) (rc' := 0) (rs' := 0) (st' := fun a9 => (am_I a9 :: [])) [am_I r5] [] dX8_level_43 okX8_levelOf lk_RX8_88 (fun zA zH zE => txX8_levelOf r5 h6 zA zH zE) rfl (fun _ => rfl) (by omega) rfl (Nat.le_of_ble_eq_true rfl) (by decide) (by decide) (fun r7 h8 => ?_)
    refine am_iload_n dX8_level_46 rfl ?_
    refine am_icmp_ne (tgt := 91) dX8_level_47 (by decide) (fun c17 => ?_) (fun c17 => ?_)
    · exact am_vret dX8_level_91 rfl rfl
    refine am_aload_n dX8_level_50 rfl ?_
    refine am_callV (cvj := am_ci) (mtj := mX8_sign) (dj := 0) (nj := 0) (rcj := 0) (rsj := 0) (rc' := 0) (rs' := 0) (ci := 8) (st' := fun a9 => (am_I a9 :: [])) ⟨_, rfl, rfl⟩ [] [] dX8_level_51 okX8_sign lk_RX8_85 (fun zA zH zE => txX8_sign l0 h8 zA zH zE) rfl (fun _ => rfl) (by omega) rfl (Nat.le_of_ble_eq_true rfl) (by decide) (by decide) (fun r9 h10 => ?_)
    refine am_istore (LL := fun y9 => [some (am_R l0), some (am_I l1), some (am_I l2), some (am_I l3), some (am_I l4), some (am_I y9)]) dX8_level_54 (by decide) (fun _ => rfl) (fun x11 => ?_)
    refine am_aload_n dX8_level_56 rfl ?_
    refine am_callV (cvj := am_cu) (mtj := mX8_next) (dj := 1) (nj := 0) (rcj := 0) (rsj := 0) (rc' := 0) (rs' := 0) (ci := 8) (st' := fun _ => []) ⟨_, rfl, rfl⟩ [] [] dX8_level_57 okX8_next lk_RX8_42 (fun zA zH zE => txX8_next l0 h10 zA zH zE) rfl (fun _ => rfl) (by omega) rfl (Nat.le_of_ble_eq_true rfl) (by decide) (by decide) (fun _ h12 => ?_)
    refine am_aload_n dX8_level_60 rfl ?_
    refine am_iload_n dX8_level_61 rfl ?_
    refine am_iconst (v := 1) dX8_level_62 (by decide) ?_
    refine am_iadd dX8_level_63 ?_
    refine am_iload_n dX8_level_64 rfl ?_
    refine am_iload_n dX8_level_65 rfl ?_
    refine am_callV (cvj := am_cu) (mtj := mX8_level) (dj := (6 * n9)) (nj := 3) (rcj := 0) (rsj := 0) (rc' := 0) (rs' := 0) (ci := 8) (st' := fun _ => []) ⟨_, rfl, rfl⟩ [am_I (l1 + (1 : Int32)), am_I l2, am_I l3] [] dX8_level_66 okX8_level lk_RX8_48 (fun zA zH zE => hL l0 (l1 + (1 : Int32)) l2 l3 h12 zA zH zE) rfl (fun _ => rfl) (by omega) rfl (Nat.le_of_ble_eq_true rfl) (by decide) (by decide) (fun _ h13 => ?_)
    refine am_aload_n dX8_level_69 rfl ?_
    refine am_getR dX8_level_70 fk_RX8_22 rfl ?_
    refine am_iload dX8_level_73 rfl ?_
    refine am_ineg dX8_level_75 ?_
    refine am_callV (cvj := am_cu) (mtj := mX3_addCode) (dj := 0) (nj := 1) (rcj := 0) (rsj := 0) (rc' := 0) (rs' := 0) (ci := 3) (st' := fun _ => []) ⟨_, rfl, rfl⟩ [am_I (-x11)] [] dX8_level_76 okX3_addCode lk_RX8_91 (fun zA zH zE => txX3_addCode (am_gr h13 l0 2) (-x11) h13 zA zH zE) rfl (fun _ => rfl) (by omega) rfl (Nat.le_of_ble_eq_true rfl) (by decide) (by decide) (fun _ h14 => ?_)
    refine am_iload_n dX8_level_79 rfl ?_
    refine am_iconst (v := 2) dX8_level_80 (by decide) ?_
    refine am_icmp_ne (tgt := 85) dX8_level_81 (by decide) (fun c16 => ?_) (fun c16 => ?_)
    · refine am_iinc (v := 1) (LL := fun y9 => [some (am_R l0), some (am_I l1), some (am_I l2), some (am_I l3), some (am_I y9), some (am_I x11)]) dX8_level_85 (by decide) rfl (by decide) (fun _ => rfl) (fun x15 => ?_)
      refine am_goto (tgt := 24) dX8_level_88 (by decide) ?_
      exact am_weak (ih l0 l1 l2 l3 x15 h14) ⟨rfl, ⟨rfl, ⟨rfl, ⟨rfl, ⟨rfl, trivial⟩⟩⟩⟩⟩ (Nat.le_refl _) (Nat.le_refl _)
    exact am_vret dX8_level_84 rfl rfl
def fxX8_levelF (fL : Option Nat → Int32 → Int32 → Int32 → am_H → Option (Unit × am_H)) (fP : Option Nat → Int32 → Int32 → am_H → Option (Unit × am_H)) (l0 : Option Nat) (l1 : Int32) (l2 : Int32) (l3 : Int32) (h : am_H) : Option (Unit × am_H) := if l1 < (5 : Int32) then (am_gd (am_ob h l0 8) (am_bd (fL l0 (l1 + (1 : Int32)) l2 l3 h) (fun _ h1 => am_lt (0 : Int32) (fun x2 => fxX8_levelF_b24 fL fP am_F l0 l1 l2 l3 x2 h1)))) else (am_gd (am_ob h l0 8) (am_bd (fP l0 l2 l3 h) (fun _ h3 => some ((), h3))))
set_option maxRecDepth 100000 in
theorem sxX8_levelF {xs : List Int32} {n9 : Nat} (fL : Option Nat → Int32 → Int32 → Int32 → am_H → Option (Unit × am_H)) (hL : ∀ (l0 : Option Nat) (l1 l2 l3 : Int32) (h : am_H) (a : Unit) (h2 : am_H), fL l0 l1 l2 l3 h = some (a, h2) → am_Ct xs mX8_level (6 * n9) 0 0 [am_R l0, am_I l1, am_I l2, am_I l3] h (fun v h3 => v = am_cu a ∧ h3 = h2)) (fP : Option Nat → Int32 → Int32 → am_H → Option (Unit × am_H)) (hP : ∀ (l0 : Option Nat) (l1 l2 : Int32) (h : am_H) (a : Unit) (h2 : am_H), fP l0 l1 l2 h = some (a, h2) → am_Ct xs mX8_piece (6 * n9) 0 0 [am_R l0, am_I l1, am_I l2] h (fun v h3 => v = am_cu a ∧ h3 = h2)) (l0 : Option Nat) (l1 : Int32) (l2 : Int32) (l3 : Int32) (h : am_H) : am_Sm xs am_cu mX8_level (6 * (n9 + 1)) 0 0 0 [some (am_R l0), some (am_I l1), some (am_I l2), some (am_I l3), none, none] [] h (fxX8_levelF fL fP l0 l1 l2 l3 h) := by
  unfold fxX8_levelF
  refine am_iload_n dX8_level_0 rfl ?_
  refine am_iconst (v := 5) dX8_level_1 (by decide) ?_
  refine am_icmp_lt (tgt := 12) dX8_level_2 (by decide) (fun c4 => ?_) (fun c4 => ?_)
  · refine am_aload_n dX8_level_12 rfl ?_
    refine am_iload_n dX8_level_13 rfl ?_
    refine am_iconst (v := 1) dX8_level_14 (by decide) ?_
    refine am_iadd dX8_level_15 ?_
    refine am_iload_n dX8_level_16 rfl ?_
    refine am_iload_n dX8_level_17 rfl ?_
    refine am_callV (cvj := am_cu) (mtj := mX8_level) (dj := (6 * n9)) (nj := 3) (rcj := 0) (rsj := 0) (rc' := 0) (rs' := 0) (ci := 8) (st' := fun _ => []) ⟨_, rfl, rfl⟩ [am_I (l1 + (1 : Int32)), am_I l2, am_I l3] [] dX8_level_18 okX8_level lk_RX8_48 (fun zA zH zE => hL l0 (l1 + (1 : Int32)) l2 l3 h zA zH zE) rfl (fun _ => rfl) (by omega) rfl (Nat.le_of_ble_eq_true rfl) (by decide) (by decide) (fun _ h1 => ?_)
    refine am_iconst (v := 0) dX8_level_21 (by decide) ?_
    refine am_istore (LL := fun y9 => [some (am_R l0), some (am_I l1), some (am_I l2), some (am_I l3), some (am_I y9), none]) dX8_level_22 (by decide) (fun _ => rfl) (fun x2 => ?_)
    exact am_weak (sxX8_levelF_b24 fL hL fP hP am_F l0 l1 l2 l3 x2 h1) ⟨rfl, ⟨rfl, ⟨rfl, ⟨rfl, ⟨rfl, trivial⟩⟩⟩⟩⟩ (Nat.le_refl _) (Nat.le_refl _)
  refine am_aload_n dX8_level_5 rfl ?_
  refine am_iload_n dX8_level_6 rfl ?_
  refine am_iload_n dX8_level_7 rfl ?_
  refine am_callV (cvj := am_cu) (mtj := mX8_piece) (dj := (6 * n9)) (nj := 2) (rcj := 0) (rsj := 0) (rc' := 0) (rs' := 0) (ci := 8) (st' := fun _ => []) ⟨_, rfl, rfl⟩ [am_I l2, am_I l3] [] dX8_level_8 okX8_piece lk_RX8_81 (fun zA zH zE => hP l0 l2 l3 h zA zH zE) rfl (fun _ => rfl) (by omega) rfl (Nat.le_of_ble_eq_true rfl) (by decide) (by decide) (fun _ h3 => ?_)
  exact am_vret dX8_level_11 rfl rfl
theorem txX8_levelF {xs : List Int32} {n9 : Nat} (fL : Option Nat → Int32 → Int32 → Int32 → am_H → Option (Unit × am_H)) (hL : ∀ (l0 : Option Nat) (l1 l2 l3 : Int32) (h : am_H) (a : Unit) (h2 : am_H), fL l0 l1 l2 l3 h = some (a, h2) → am_Ct xs mX8_level (6 * n9) 0 0 [am_R l0, am_I l1, am_I l2, am_I l3] h (fun v h3 => v = am_cu a ∧ h3 = h2)) (fP : Option Nat → Int32 → Int32 → am_H → Option (Unit × am_H)) (hP : ∀ (l0 : Option Nat) (l1 l2 : Int32) (h : am_H) (a : Unit) (h2 : am_H), fP l0 l1 l2 h = some (a, h2) → am_Ct xs mX8_piece (6 * n9) 0 0 [am_R l0, am_I l1, am_I l2] h (fun v h3 => v = am_cu a ∧ h3 = h2)) (l0 : Option Nat) (l1 : Int32) (l2 : Int32) (l3 : Int32) (h : am_H) (a : Unit) (h2 : am_H) (e : fxX8_levelF fL fP l0 l1 l2 l3 h = some (a, h2)) : am_Ct xs mX8_level (6 * (n9 + 1)) 0 0 [am_R l0, am_I l1, am_I l2, am_I l3] h (fun v h3 => v = am_cu a ∧ h3 = h2) := am_meth okX8_level (Nat.le_of_ble_eq_true rfl) rfl (sxX8_levelF fL hL fP hP l0 l1 l2 l3 h) e
theorem dX8_piece_0 : am_at cX8_piece 0 (.aload_n 0) 1 1 := by decide +kernel
theorem dX8_piece_1 : am_at cX8_piece 1 (.getfield 26) 3 4 := by decide +kernel
theorem dX8_piece_4 : am_at cX8_piece 4 (.iconst (-1)) 1 5 := by decide +kernel
theorem dX8_piece_5 : am_at cX8_piece 5 (.if_icmp .eq 4) 3 8 := by decide +kernel
theorem dX8_piece_8 : am_at cX8_piece 8 (.return_) 1 9 := by decide +kernel
theorem dX8_piece_9 : am_at cX8_piece 9 (.aload_n 0) 1 10 := by decide +kernel
theorem dX8_piece_10 : am_at cX8_piece 10 (.getfield 29) 3 13 := by decide +kernel
theorem dX8_piece_13 : am_at cX8_piece 13 (.iconst 2) 1 14 := by decide +kernel
theorem dX8_piece_14 : am_at cX8_piece 14 (.if_icmp .ne 21) 3 17 := by decide +kernel
theorem dX8_piece_17 : am_at cX8_piece 17 (.aload_n 0) 1 18 := by decide +kernel
theorem dX8_piece_18 : am_at cX8_piece 18 (.getfield 22) 3 21 := by decide +kernel
theorem dX8_piece_21 : am_at cX8_piece 21 (.aload_n 0) 1 22 := by decide +kernel
theorem dX8_piece_22 : am_at cX8_piece 22 (.invokevirtual 94) 3 25 := by decide +kernel
theorem dX8_piece_25 : am_at cX8_piece 25 (.invokevirtual 97) 3 28 := by decide +kernel
theorem dX8_piece_28 : am_at cX8_piece 28 (.aload_n 0) 1 29 := by decide +kernel
theorem dX8_piece_29 : am_at cX8_piece 29 (.invokevirtual 42) 3 32 := by decide +kernel
theorem dX8_piece_32 : am_at cX8_piece 32 (.goto 96) 3 35 := by decide +kernel
theorem dX8_piece_35 : am_at cX8_piece 35 (.aload_n 0) 1 36 := by decide +kernel
theorem dX8_piece_36 : am_at cX8_piece 36 (.getfield 29) 3 39 := by decide +kernel
theorem dX8_piece_39 : am_at cX8_piece 39 (.iconst 1) 1 40 := by decide +kernel
theorem dX8_piece_40 : am_at cX8_piece 40 (.if_icmp .ne 10) 3 43 := by decide +kernel
theorem dX8_piece_43 : am_at cX8_piece 43 (.aload_n 0) 1 44 := by decide +kernel
theorem dX8_piece_44 : am_at cX8_piece 44 (.invokevirtual 100) 3 47 := by decide +kernel
theorem dX8_piece_47 : am_at cX8_piece 47 (.goto 81) 3 50 := by decide +kernel
theorem dX8_piece_50 : am_at cX8_piece 50 (.aload_n 0) 1 51 := by decide +kernel
theorem dX8_piece_51 : am_at cX8_piece 51 (.invokevirtual 85) 3 54 := by decide +kernel
theorem dX8_piece_54 : am_at cX8_piece 54 (.bipush 33) 2 56 := by decide +kernel
theorem dX8_piece_56 : am_at cX8_piece 56 (.if_icmp .ne 33) 3 59 := by decide +kernel
theorem dX8_piece_59 : am_at cX8_piece 59 (.iload_n 2) 1 60 := by decide +kernel
theorem dX8_piece_60 : am_at cX8_piece 60 (.bipush 8) 2 62 := by decide +kernel
theorem dX8_piece_62 : am_at cX8_piece 62 (.if_icmp .ge 27) 3 65 := by decide +kernel
theorem dX8_piece_65 : am_at cX8_piece 65 (.aload_n 0) 1 66 := by decide +kernel
theorem dX8_piece_66 : am_at cX8_piece 66 (.invokevirtual 42) 3 69 := by decide +kernel
theorem dX8_piece_69 : am_at cX8_piece 69 (.aload_n 0) 1 70 := by decide +kernel
theorem dX8_piece_70 : am_at cX8_piece 70 (.iload_n 1) 1 71 := by decide +kernel
theorem dX8_piece_71 : am_at cX8_piece 71 (.iload_n 2) 1 72 := by decide +kernel
theorem dX8_piece_72 : am_at cX8_piece 72 (.iconst 1) 1 73 := by decide +kernel
theorem dX8_piece_73 : am_at cX8_piece 73 (.iadd) 1 74 := by decide +kernel
theorem dX8_piece_74 : am_at cX8_piece 74 (.invokevirtual 81) 3 77 := by decide +kernel
theorem dX8_piece_77 : am_at cX8_piece 77 (.aload_n 0) 1 78 := by decide +kernel
theorem dX8_piece_78 : am_at cX8_piece 78 (.getfield 22) 3 81 := by decide +kernel
theorem dX8_piece_81 : am_at cX8_piece 81 (.bipush (-33)) 2 83 := by decide +kernel
theorem dX8_piece_83 : am_at cX8_piece 83 (.invokevirtual 91) 3 86 := by decide +kernel
theorem dX8_piece_86 : am_at cX8_piece 86 (.goto 42) 3 89 := by decide +kernel
theorem dX8_piece_89 : am_at cX8_piece 89 (.aload_n 0) 1 90 := by decide +kernel
theorem dX8_piece_90 : am_at cX8_piece 90 (.invokevirtual 85) 3 93 := by decide +kernel
theorem dX8_piece_93 : am_at cX8_piece 93 (.bipush 40) 2 95 := by decide +kernel
theorem dX8_piece_95 : am_at cX8_piece 95 (.if_icmp .ne 29) 3 98 := by decide +kernel
theorem dX8_piece_98 : am_at cX8_piece 98 (.iload_n 1) 1 99 := by decide +kernel
theorem dX8_piece_99 : am_at cX8_piece 99 (.bipush 8) 2 101 := by decide +kernel
theorem dX8_piece_101 : am_at cX8_piece 101 (.if_icmp .ge 23) 3 104 := by decide +kernel
theorem dX8_piece_104 : am_at cX8_piece 104 (.aload_n 0) 1 105 := by decide +kernel
theorem dX8_piece_105 : am_at cX8_piece 105 (.invokevirtual 42) 3 108 := by decide +kernel
theorem dX8_piece_108 : am_at cX8_piece 108 (.aload_n 0) 1 109 := by decide +kernel
theorem dX8_piece_109 : am_at cX8_piece 109 (.iconst 0) 1 110 := by decide +kernel
theorem dX8_piece_110 : am_at cX8_piece 110 (.iload_n 1) 1 111 := by decide +kernel
theorem dX8_piece_111 : am_at cX8_piece 111 (.iconst 1) 1 112 := by decide +kernel
theorem dX8_piece_112 : am_at cX8_piece 112 (.iadd) 1 113 := by decide +kernel
theorem dX8_piece_113 : am_at cX8_piece 113 (.iload_n 2) 1 114 := by decide +kernel
theorem dX8_piece_114 : am_at cX8_piece 114 (.invokevirtual 48) 3 117 := by decide +kernel
theorem dX8_piece_117 : am_at cX8_piece 117 (.aload_n 0) 1 118 := by decide +kernel
theorem dX8_piece_118 : am_at cX8_piece 118 (.invokevirtual 103) 3 121 := by decide +kernel
theorem dX8_piece_121 : am_at cX8_piece 121 (.goto 7) 3 124 := by decide +kernel
theorem dX8_piece_124 : am_at cX8_piece 124 (.aload_n 0) 1 125 := by decide +kernel
theorem dX8_piece_125 : am_at cX8_piece 125 (.invokevirtual 52) 3 128 := by decide +kernel
theorem dX8_piece_128 : am_at cX8_piece 128 (.return_) 1 129 := by decide +kernel
def fxX8_pieceF_b124 (fL : Option Nat → Int32 → Int32 → Int32 → am_H → Option (Unit × am_H)) (fP : Option Nat → Int32 → Int32 → am_H → Option (Unit × am_H)) (l0 : Option Nat) (h : am_H) : Option (Unit × am_H) := am_gd (am_ob h l0 8) (am_bd (fxX8_refuse l0 h) (fun _ h23 => some ((), h23)))
set_option maxRecDepth 100000 in
theorem sxX8_pieceF_b124 {xs : List Int32} {n9 : Nat} (fL : Option Nat → Int32 → Int32 → Int32 → am_H → Option (Unit × am_H)) (hL : ∀ (l0 : Option Nat) (l1 l2 l3 : Int32) (h : am_H) (a : Unit) (h2 : am_H), fL l0 l1 l2 l3 h = some (a, h2) → am_Ct xs mX8_level (6 * n9) 0 0 [am_R l0, am_I l1, am_I l2, am_I l3] h (fun v h3 => v = am_cu a ∧ h3 = h2)) (fP : Option Nat → Int32 → Int32 → am_H → Option (Unit × am_H)) (hP : ∀ (l0 : Option Nat) (l1 l2 : Int32) (h : am_H) (a : Unit) (h2 : am_H), fP l0 l1 l2 h = some (a, h2) → am_Ct xs mX8_piece (6 * n9) 0 0 [am_R l0, am_I l1, am_I l2] h (fun v h3 => v = am_cu a ∧ h3 = h2)) (l0 : Option Nat) (h : am_H) : am_Sm xs am_cu mX8_piece (6 * (n9 + 1)) 0 0 124 [some (am_R l0), none, none] [] h (fxX8_pieceF_b124 fL fP l0 h) := by
  unfold fxX8_pieceF_b124
  refine am_aload_n dX8_piece_124 rfl ?_
  refine am_callV (cvj := am_cu) (mtj := mX8_refuse) (dj := 0) (nj := 0) (rcj := 0) (rsj := 0) (rc' := 0) (rs' := 0) (ci := 8) (st' := fun _ => []) ⟨_, rfl, rfl⟩ [] [] dX8_piece_125 okX8_refuse lk_RX8_52 (fun zA zH zE => txX8_refuse l0 h zA zH zE) rfl (fun _ => rfl) (by omega) rfl (Nat.le_of_ble_eq_true rfl) (by decide) (by decide) (fun _ h23 => ?_)
  exact am_vret dX8_piece_128 rfl rfl
def fxX8_pieceF_b89 (fL : Option Nat → Int32 → Int32 → Int32 → am_H → Option (Unit × am_H)) (fP : Option Nat → Int32 → Int32 → am_H → Option (Unit × am_H)) (l0 : Option Nat) (l1 : Int32) (l2 : Int32) (h : am_H) : Option (Unit × am_H) := am_gd (am_ob h l0 8) (am_bd (fxX8_sign l0 h) (fun r16 h17 => if r16 = (40 : Int32) then (if (8 : Int32) ≤ l1 then (fxX8_pieceF_b124 fL fP l0 h17) else (am_gd (am_ob h17 l0 8) (am_bd (fxX8_next l0 h17) (fun _ h18 => am_gd (am_ob h18 l0 8) (am_bd (fL l0 (0 : Int32) (l1 + (1 : Int32)) l2 h18) (fun _ h19 => am_gd (am_ob h19 l0 8) (am_bd (fxX8_close l0 h19) (fun _ h20 => some ((), h20))))))))) else (fxX8_pieceF_b124 fL fP l0 h17)))
set_option maxRecDepth 100000 in
theorem sxX8_pieceF_b89 {xs : List Int32} {n9 : Nat} (fL : Option Nat → Int32 → Int32 → Int32 → am_H → Option (Unit × am_H)) (hL : ∀ (l0 : Option Nat) (l1 l2 l3 : Int32) (h : am_H) (a : Unit) (h2 : am_H), fL l0 l1 l2 l3 h = some (a, h2) → am_Ct xs mX8_level (6 * n9) 0 0 [am_R l0, am_I l1, am_I l2, am_I l3] h (fun v h3 => v = am_cu a ∧ h3 = h2)) (fP : Option Nat → Int32 → Int32 → am_H → Option (Unit × am_H)) (hP : ∀ (l0 : Option Nat) (l1 l2 : Int32) (h : am_H) (a : Unit) (h2 : am_H), fP l0 l1 l2 h = some (a, h2) → am_Ct xs mX8_piece (6 * n9) 0 0 [am_R l0, am_I l1, am_I l2] h (fun v h3 => v = am_cu a ∧ h3 = h2)) (l0 : Option Nat) (l1 : Int32) (l2 : Int32) (h : am_H) : am_Sm xs am_cu mX8_piece (6 * (n9 + 1)) 0 0 89 [some (am_R l0), some (am_I l1), some (am_I l2)] [] h (fxX8_pieceF_b89 fL fP l0 l1 l2 h) := by
  unfold fxX8_pieceF_b89
  refine am_aload_n dX8_piece_89 rfl ?_
  refine am_callV (cvj := am_ci) (mtj := mX8_sign) (dj := 0) (nj := 0) (rcj := 0) (rsj := 0) (rc' := 0) (rs' := 0) (ci := 8) (st' := fun a9 => (am_I a9 :: [])) ⟨_, rfl, rfl⟩ [] [] dX8_piece_90 okX8_sign lk_RX8_85 (fun zA zH zE => txX8_sign l0 h zA zH zE) rfl (fun _ => rfl) (by omega) rfl (Nat.le_of_ble_eq_true rfl) (by decide) (by decide) (fun r16 h17 => ?_)
  refine am_bipush (v := 40) dX8_piece_93 (by decide) ?_
  refine am_icmp_ne (tgt := 124) dX8_piece_95 (by decide) (fun c22 => ?_) (fun c22 => ?_)
  · exact am_weak (sxX8_pieceF_b124 fL hL fP hP l0 h17) ⟨rfl, trivial⟩ (Nat.le_refl _) (Nat.le_refl _)
  refine am_iload_n dX8_piece_98 rfl ?_
  refine am_bipush (v := 8) dX8_piece_99 (by decide) ?_
  refine am_icmp_ge (tgt := 124) dX8_piece_101 (by decide) (fun c21 => ?_) (fun c21 => ?_)
  · exact am_weak (sxX8_pieceF_b124 fL hL fP hP l0 h17) ⟨rfl, trivial⟩ (Nat.le_refl _) (Nat.le_refl _)
  refine am_aload_n dX8_piece_104 rfl ?_
  refine am_callV (cvj := am_cu) (mtj := mX8_next) (dj := 1) (nj := 0) (rcj := 0) (rsj := 0) (rc' := 0) (rs' := 0) (ci := 8) (st' := fun _ => []) ⟨_, rfl, rfl⟩ [] [] dX8_piece_105 okX8_next lk_RX8_42 (fun zA zH zE => txX8_next l0 h17 zA zH zE) rfl (fun _ => rfl) (by omega) rfl (Nat.le_of_ble_eq_true rfl) (by decide) (by decide) (fun _ h18 => ?_)
  refine am_aload_n dX8_piece_108 rfl ?_
  refine am_iconst (v := 0) dX8_piece_109 (by decide) ?_
  refine am_iload_n dX8_piece_110 rfl ?_
  refine am_iconst (v := 1) dX8_piece_111 (by decide) ?_
  refine am_iadd dX8_piece_112 ?_
  refine am_iload_n dX8_piece_113 rfl ?_
  refine am_callV (cvj := am_cu) (mtj := mX8_level) (dj := (6 * n9)) (nj := 3) (rcj := 0) (rsj := 0) (rc' := 0) (rs' := 0) (ci := 8) (st' := fun _ => []) ⟨_, rfl, rfl⟩ [am_I (0 : Int32), am_I (l1 + (1 : Int32)), am_I l2] [] dX8_piece_114 okX8_level lk_RX8_48 (fun zA zH zE => hL l0 (0 : Int32) (l1 + (1 : Int32)) l2 h18 zA zH zE) rfl (fun _ => rfl) (by omega) rfl (Nat.le_of_ble_eq_true rfl) (by decide) (by decide) (fun _ h19 => ?_)
  refine am_aload_n dX8_piece_117 rfl ?_
  refine am_callV (cvj := am_cu) (mtj := mX8_close) (dj := 2) (nj := 0) (rcj := 0) (rsj := 0) (rc' := 0) (rs' := 0) (ci := 8) (st' := fun _ => []) ⟨_, rfl, rfl⟩ [] [] dX8_piece_118 okX8_close lk_RX8_103 (fun zA zH zE => txX8_close l0 h19 zA zH zE) rfl (fun _ => rfl) (by omega) rfl (Nat.le_of_ble_eq_true rfl) (by decide) (by decide) (fun _ h20 => ?_)
  refine am_goto (tgt := 128) dX8_piece_121 (by decide) ?_
  exact am_vret dX8_piece_128 rfl rfl
def fxX8_pieceF (fL : Option Nat → Int32 → Int32 → Int32 → am_H → Option (Unit × am_H)) (fP : Option Nat → Int32 → Int32 → am_H → Option (Unit × am_H)) (l0 : Option Nat) (l1 : Int32) (l2 : Int32) (h : am_H) : Option (Unit × am_H) := am_gd (am_ob h l0 8) (if (am_gi h l0 3) = (-1 : Int32) then (am_gd (am_ob h l0 8) (if (am_gi h l0 4) = (2 : Int32) then (am_gd (am_ob h l0 8) (am_gd (am_ob h l0 8) (am_bd (fxX8_number l0 h) (fun r10 h11 => am_gd (am_ob h11 (am_gr h l0 2) 3) (am_bd (fxX3_addOperand (am_gr h l0 2) r10 h11) (fun _ h12 => am_gd (am_ob h12 l0 8) (am_bd (fxX8_next l0 h12) (fun _ h13 => some ((), h13))))))))) else (am_gd (am_ob h l0 8) (if (am_gi h l0 4) = (1 : Int32) then (am_gd (am_ob h l0 8) (am_bd (fxX8_name l0 h) (fun _ h8 => some ((), h8)))) else (am_gd (am_ob h l0 8) (am_bd (fxX8_sign l0 h) (fun r1 h2 => if r1 = (33 : Int32) then (if (8 : Int32) ≤ l2 then (fxX8_pieceF_b89 fL fP l0 l1 l2 h2) else (am_gd (am_ob h2 l0 8) (am_bd (fxX8_next l0 h2) (fun _ h3 => am_gd (am_ob h3 l0 8) (am_bd (fP l0 l1 (l2 + (1 : Int32)) h3) (fun _ h4 => am_gd (am_ob h4 l0 8) (am_gd (am_ob h4 (am_gr h4 l0 2) 3) (am_bd (fxX3_addCode (am_gr h4 l0 2) (-33 : Int32) h4) (fun _ h5 => some ((), h5)))))))))) else (fxX8_pieceF_b89 fL fP l0 l1 l2 h2)))))))) else (some ((), h)))
set_option maxRecDepth 100000 in
theorem sxX8_pieceF {xs : List Int32} {n9 : Nat} (fL : Option Nat → Int32 → Int32 → Int32 → am_H → Option (Unit × am_H)) (hL : ∀ (l0 : Option Nat) (l1 l2 l3 : Int32) (h : am_H) (a : Unit) (h2 : am_H), fL l0 l1 l2 l3 h = some (a, h2) → am_Ct xs mX8_level (6 * n9) 0 0 [am_R l0, am_I l1, am_I l2, am_I l3] h (fun v h3 => v = am_cu a ∧ h3 = h2)) (fP : Option Nat → Int32 → Int32 → am_H → Option (Unit × am_H)) (hP : ∀ (l0 : Option Nat) (l1 l2 : Int32) (h : am_H) (a : Unit) (h2 : am_H), fP l0 l1 l2 h = some (a, h2) → am_Ct xs mX8_piece (6 * n9) 0 0 [am_R l0, am_I l1, am_I l2] h (fun v h3 => v = am_cu a ∧ h3 = h2)) (l0 : Option Nat) (l1 : Int32) (l2 : Int32) (h : am_H) : am_Sm xs am_cu mX8_piece (6 * (n9 + 1)) 0 0 0 [some (am_R l0), some (am_I l1), some (am_I l2)] [] h (fxX8_pieceF fL fP l0 l1 l2 h) := by
  unfold fxX8_pieceF
  refine am_aload_n dX8_piece_0 rfl ?_
  refine am_getI dX8_piece_1 fk_RX8_26 rfl ?_
  refine am_iconst (v := (-1)) dX8_piece_4 (by decide) ?_
  refine am_icmp_eq (tgt := 9) dX8_piece_5 (by decide) (fun c15 => ?_) (fun c15 => ?_)
  · refine am_aload_n dX8_piece_9 rfl ?_
    refine am_getI dX8_piece_10 fk_RX8_29 rfl ?_
    refine am_iconst (v := 2) dX8_piece_13 (by decide) ?_
    refine am_icmp_ne (tgt := 35) dX8_piece_14 (by decide) (fun c14 => ?_) (fun c14 => ?_)
    · refine am_aload_n dX8_piece_35 rfl ?_
      refine am_getI dX8_piece_36 fk_RX8_29 rfl ?_
      refine am_iconst (v := 1) dX8_piece_39 (by decide) ?_
      refine am_icmp_ne (tgt := 50) dX8_piece_40 (by decide) (fun c9 => ?_) (fun c9 => ?_)
      · refine am_aload_n dX8_piece_50 rfl ?_
        refine am_callV (cvj := am_ci) (mtj := mX8_sign) (dj := 0) (nj := 0) (rcj := 0) (rsj := 0) (rc' := 0) (rs' := 0) (ci := 8) (st' := fun a9 => (am_I a9 :: [])) ⟨_, rfl, rfl⟩ [] [] dX8_piece_51 okX8_sign lk_RX8_85 (fun zA zH zE => txX8_sign l0 h zA zH zE) rfl (fun _ => rfl) (by omega) rfl (Nat.le_of_ble_eq_true rfl) (by decide) (by decide) (fun r1 h2 => ?_)
        refine am_bipush (v := 33) dX8_piece_54 (by decide) ?_
        refine am_icmp_ne (tgt := 89) dX8_piece_56 (by decide) (fun c7 => ?_) (fun c7 => ?_)
        · exact am_weak (sxX8_pieceF_b89 fL hL fP hP l0 l1 l2 h2) ⟨rfl, ⟨rfl, ⟨rfl, trivial⟩⟩⟩ (Nat.le_refl _) (Nat.le_refl _)
        refine am_iload_n dX8_piece_59 rfl ?_
        refine am_bipush (v := 8) dX8_piece_60 (by decide) ?_
        refine am_icmp_ge (tgt := 89) dX8_piece_62 (by decide) (fun c6 => ?_) (fun c6 => ?_)
        · exact am_weak (sxX8_pieceF_b89 fL hL fP hP l0 l1 l2 h2) ⟨rfl, ⟨rfl, ⟨rfl, trivial⟩⟩⟩ (Nat.le_refl _) (Nat.le_refl _)
        refine am_aload_n dX8_piece_65 rfl ?_
        refine am_callV (cvj := am_cu) (mtj := mX8_next) (dj := 1) (nj := 0) (rcj := 0) (rsj := 0) (rc' := 0) (rs' := 0) (ci := 8) (st' := fun _ => []) ⟨_, rfl, rfl⟩ [] [] dX8_piece_66 okX8_next lk_RX8_42 (fun zA zH zE => txX8_next l0 h2 zA zH zE) rfl (fun _ => rfl) (by omega) rfl (Nat.le_of_ble_eq_true rfl) (by decide) (by decide) (fun _ h3 => ?_)
        refine am_aload_n dX8_piece_69 rfl ?_
        refine am_iload_n dX8_piece_70 rfl ?_
        refine am_iload_n dX8_piece_71 rfl ?_
        refine am_iconst (v := 1) dX8_piece_72 (by decide) ?_
        refine am_iadd dX8_piece_73 ?_
        refine am_callV (cvj := am_cu) (mtj := mX8_piece) (dj := (6 * n9)) (nj := 2) (rcj := 0) (rsj := 0) (rc' := 0) (rs' := 0) (ci := 8) (st' := fun _ => []) ⟨_, rfl, rfl⟩ [am_I l1, am_I (l2 + (1 : Int32))] [] dX8_piece_74 okX8_piece lk_RX8_81 (fun zA zH zE => hP l0 l1 (l2 + (1 : Int32)) h3 zA zH zE) rfl (fun _ => rfl) (by omega) rfl (Nat.le_of_ble_eq_true rfl) (by decide) (by decide) (fun _ h4 => ?_)
        refine am_aload_n dX8_piece_77 rfl ?_
        refine am_getR dX8_piece_78 fk_RX8_22 rfl ?_
        refine am_bipush (v := (-33)) dX8_piece_81 (by decide) ?_
        refine am_callV (cvj := am_cu) (mtj := mX3_addCode) (dj := 0) (nj := 1) (rcj := 0) (rsj := 0) (rc' := 0) (rs' := 0) (ci := 3) (st' := fun _ => []) ⟨_, rfl, rfl⟩ [am_I (-33 : Int32)] [] dX8_piece_83 okX3_addCode lk_RX8_91 (fun zA zH zE => txX3_addCode (am_gr h4 l0 2) (-33 : Int32) h4 zA zH zE) rfl (fun _ => rfl) (by omega) rfl (Nat.le_of_ble_eq_true rfl) (by decide) (by decide) (fun _ h5 => ?_)
        refine am_goto (tgt := 128) dX8_piece_86 (by decide) ?_
        exact am_vret dX8_piece_128 rfl rfl
      refine am_aload_n dX8_piece_43 rfl ?_
      refine am_callV (cvj := am_cu) (mtj := mX8_name) (dj := 4) (nj := 0) (rcj := 0) (rsj := 0) (rc' := 0) (rs' := 0) (ci := 8) (st' := fun _ => []) ⟨_, rfl, rfl⟩ [] [] dX8_piece_44 okX8_name lk_RX8_100 (fun zA zH zE => txX8_name l0 h zA zH zE) rfl (fun _ => rfl) (by omega) rfl (Nat.le_of_ble_eq_true rfl) (by decide) (by decide) (fun _ h8 => ?_)
      refine am_goto (tgt := 128) dX8_piece_47 (by decide) ?_
      exact am_vret dX8_piece_128 rfl rfl
    refine am_aload_n dX8_piece_17 rfl ?_
    refine am_getR dX8_piece_18 fk_RX8_22 rfl ?_
    refine am_aload_n dX8_piece_21 rfl ?_
    refine am_callV (cvj := am_ci) (mtj := mX8_number) (dj := 0) (nj := 0) (rcj := 0) (rsj := 0) (rc' := 0) (rs' := 0) (ci := 8) (st' := fun a9 => (am_I a9 :: [am_R (am_gr h l0 2)])) ⟨_, rfl, rfl⟩ [] [am_R (am_gr h l0 2)] dX8_piece_22 okX8_number lk_RX8_94 (fun zA zH zE => txX8_number l0 h zA zH zE) rfl (fun _ => rfl) (by omega) rfl (Nat.le_of_ble_eq_true rfl) (by decide) (by decide) (fun r10 h11 => ?_)
    refine am_callV (cvj := am_cu) (mtj := mX3_addOperand) (dj := 1) (nj := 1) (rcj := 0) (rsj := 0) (rc' := 0) (rs' := 0) (ci := 3) (st' := fun _ => []) ⟨_, rfl, rfl⟩ [am_I r10] [] dX8_piece_25 okX3_addOperand lk_RX8_97 (fun zA zH zE => txX3_addOperand (am_gr h l0 2) r10 h11 zA zH zE) rfl (fun _ => rfl) (by omega) rfl (Nat.le_of_ble_eq_true rfl) (by decide) (by decide) (fun _ h12 => ?_)
    refine am_aload_n dX8_piece_28 rfl ?_
    refine am_callV (cvj := am_cu) (mtj := mX8_next) (dj := 1) (nj := 0) (rcj := 0) (rsj := 0) (rc' := 0) (rs' := 0) (ci := 8) (st' := fun _ => []) ⟨_, rfl, rfl⟩ [] [] dX8_piece_29 okX8_next lk_RX8_42 (fun zA zH zE => txX8_next l0 h12 zA zH zE) rfl (fun _ => rfl) (by omega) rfl (Nat.le_of_ble_eq_true rfl) (by decide) (by decide) (fun _ h13 => ?_)
    refine am_goto (tgt := 128) dX8_piece_32 (by decide) ?_
    exact am_vret dX8_piece_128 rfl rfl
  exact am_vret dX8_piece_8 rfl rfl
theorem txX8_pieceF {xs : List Int32} {n9 : Nat} (fL : Option Nat → Int32 → Int32 → Int32 → am_H → Option (Unit × am_H)) (hL : ∀ (l0 : Option Nat) (l1 l2 l3 : Int32) (h : am_H) (a : Unit) (h2 : am_H), fL l0 l1 l2 l3 h = some (a, h2) → am_Ct xs mX8_level (6 * n9) 0 0 [am_R l0, am_I l1, am_I l2, am_I l3] h (fun v h3 => v = am_cu a ∧ h3 = h2)) (fP : Option Nat → Int32 → Int32 → am_H → Option (Unit × am_H)) (hP : ∀ (l0 : Option Nat) (l1 l2 : Int32) (h : am_H) (a : Unit) (h2 : am_H), fP l0 l1 l2 h = some (a, h2) → am_Ct xs mX8_piece (6 * n9) 0 0 [am_R l0, am_I l1, am_I l2] h (fun v h3 => v = am_cu a ∧ h3 = h2)) (l0 : Option Nat) (l1 : Int32) (l2 : Int32) (h : am_H) (a : Unit) (h2 : am_H) (e : fxX8_pieceF fL fP l0 l1 l2 h = some (a, h2)) : am_Ct xs mX8_piece (6 * (n9 + 1)) 0 0 [am_R l0, am_I l1, am_I l2] h (fun v h3 => v = am_cu a ∧ h3 = h2) := am_meth okX8_piece (Nat.le_of_ble_eq_true rfl) rfl (sxX8_pieceF fL hL fP hP l0 l1 l2 h) e
def fxX8_lp : Nat → (Option Nat → Int32 → Int32 → Int32 → am_H → Option (Unit × am_H)) × (Option Nat → Int32 → Int32 → am_H → Option (Unit × am_H))
  | 0 => (fun _ _ _ _ _ => none, fun _ _ _ _ => none)
  | n + 1 => (fxX8_levelF (fxX8_lp n).1 (fxX8_lp n).2, fxX8_pieceF (fxX8_lp n).1 (fxX8_lp n).2)
theorem txX8_lp {xs : List Int32} : ∀ n9 : Nat, (∀ (l0 : Option Nat) (l1 l2 l3 : Int32) (h : am_H) (a : Unit) (h2 : am_H), (fxX8_lp n9).1 l0 l1 l2 l3 h = some (a, h2) → am_Ct xs mX8_level (6 * n9) 0 0 [am_R l0, am_I l1, am_I l2, am_I l3] h (fun v h3 => v = am_cu a ∧ h3 = h2)) ∧ (∀ (l0 : Option Nat) (l1 l2 : Int32) (h : am_H) (a : Unit) (h2 : am_H), (fxX8_lp n9).2 l0 l1 l2 h = some (a, h2) → am_Ct xs mX8_piece (6 * n9) 0 0 [am_R l0, am_I l1, am_I l2] h (fun v h3 => v = am_cu a ∧ h3 = h2)) := by
  intro n
  induction n with
  | zero => exact ⟨fun _ _ _ _ _ _ _ e => (by cases e), fun _ _ _ _ _ _ e => (by cases e)⟩
  | succ n ih => exact ⟨fun l0 l1 l2 l3 h a h2 e => txX8_levelF _ ih.1 _ ih.2 l0 l1 l2 l3 h a h2 e, fun l0 l1 l2 h a h2 e => txX8_pieceF _ ih.1 _ ih.2 l0 l1 l2 h a h2 e⟩
def fxX8_level (l0 : Option Nat) (l1 l2 l3 : Int32) (h : am_H) : Option (Unit × am_H) := (fxX8_lp 100).1 l0 l1 l2 l3 h
theorem txX8_level {xs : List Int32} (l0 : Option Nat) (l1 l2 l3 : Int32) (h : am_H) (a : Unit) (h2 : am_H) (e : fxX8_level l0 l1 l2 l3 h = some (a, h2)) : am_Ct xs mX8_level 600 0 0 [am_R l0, am_I l1, am_I l2, am_I l3] h (fun v h3 => v = am_cu a ∧ h3 = h2) := (txX8_lp 100).1 l0 l1 l2 l3 h a h2 e
theorem dX8_read_0 : am_at cX8_read 0 (.aload_n 0) 1 1 := by decide +kernel
theorem dX8_read_1 : am_at cX8_read 1 (.aload_n 1) 1 2 := by decide +kernel
theorem dX8_read_2 : am_at cX8_read 2 (.invokevirtual 38) 3 5 := by decide +kernel
theorem dX8_read_5 : am_at cX8_read 5 (.aload_n 0) 1 6 := by decide +kernel
theorem dX8_read_6 : am_at cX8_read 6 (.invokevirtual 42) 3 9 := by decide +kernel
theorem dX8_read_9 : am_at cX8_read 9 (.aload_n 0) 1 10 := by decide +kernel
theorem dX8_read_10 : am_at cX8_read 10 (.invokevirtual 45) 3 13 := by decide +kernel
theorem dX8_read_13 : am_at cX8_read 13 (.aload_n 0) 1 14 := by decide +kernel
theorem dX8_read_14 : am_at cX8_read 14 (.invokevirtual 42) 3 17 := by decide +kernel
theorem dX8_read_17 : am_at cX8_read 17 (.aload_n 0) 1 18 := by decide +kernel
theorem dX8_read_18 : am_at cX8_read 18 (.iconst 0) 1 19 := by decide +kernel
theorem dX8_read_19 : am_at cX8_read 19 (.iconst 0) 1 20 := by decide +kernel
theorem dX8_read_20 : am_at cX8_read 20 (.iconst 0) 1 21 := by decide +kernel
theorem dX8_read_21 : am_at cX8_read 21 (.invokevirtual 48) 3 24 := by decide +kernel
theorem dX8_read_24 : am_at cX8_read 24 (.aload_n 0) 1 25 := by decide +kernel
theorem dX8_read_25 : am_at cX8_read 25 (.getfield 29) 3 28 := by decide +kernel
theorem dX8_read_28 : am_at cX8_read 28 (.ifCond .eq 7) 3 31 := by decide +kernel
theorem dX8_read_31 : am_at cX8_read 31 (.aload_n 0) 1 32 := by decide +kernel
theorem dX8_read_32 : am_at cX8_read 32 (.invokevirtual 52) 3 35 := by decide +kernel
theorem dX8_read_35 : am_at cX8_read 35 (.aload_n 0) 1 36 := by decide +kernel
theorem dX8_read_36 : am_at cX8_read 36 (.getfield 26) 3 39 := by decide +kernel
theorem dX8_read_39 : am_at cX8_read 39 (.ireturn) 1 40 := by decide +kernel
def fxX8_read_b35 (l0 : Option Nat) (h : am_H) : Option (Int32 × am_H) := am_gd (am_ob h l0 8) (some ((am_gi h l0 3), h))
set_option maxRecDepth 100000 in
theorem sxX8_read_b35 {xs : List Int32} (l0 : Option Nat) (h : am_H) : am_Sm xs am_ci mX8_read 601 0 0 35 [some (am_R l0), none] [] h (fxX8_read_b35 l0 h) := by
  unfold fxX8_read_b35
  refine am_aload_n dX8_read_35 rfl ?_
  refine am_getI dX8_read_36 fk_RX8_26 rfl ?_
  exact am_iret dX8_read_39 rfl rfl
def fxX8_read (l0 : Option Nat) (l1 : Option Nat) (h : am_H) : Option (Int32 × am_H) := am_gd (am_ob h l0 8) (am_bd (fxX8_begin l0 l1 h) (fun _ h1 => am_gd (am_ob h1 l0 8) (am_bd (fxX8_next l0 h1) (fun _ h2 => am_gd (am_ob h2 l0 8) (am_bd (fxX8_key l0 h2) (fun _ h3 => am_gd (am_ob h3 l0 8) (am_bd (fxX8_next l0 h3) (fun _ h4 => am_gd (am_ob h4 l0 8) (am_bd (fxX8_level l0 (0 : Int32) (0 : Int32) (0 : Int32) h4) (fun _ h5 => am_gd (am_ob h5 l0 8) (if (am_gi h5 l0 4) = 0 then (fxX8_read_b35 l0 h5) else (am_gd (am_ob h5 l0 8) (am_bd (fxX8_refuse l0 h5) (fun _ h6 => fxX8_read_b35 l0 h6))))))))))))))
set_option maxRecDepth 100000 in
theorem sxX8_read {xs : List Int32} (l0 : Option Nat) (l1 : Option Nat) (h : am_H) : am_Sm xs am_ci mX8_read 601 0 0 0 [some (am_R l0), some (am_R l1)] [] h (fxX8_read l0 l1 h) := by
  unfold fxX8_read
  refine am_aload_n dX8_read_0 rfl ?_
  refine am_aload_n dX8_read_1 rfl ?_
  refine am_callV (cvj := am_cu) (mtj := mX8_begin) (dj := 0) (nj := 1) (rcj := 0) (rsj := 0) (rc' := 0) (rs' := 0) (ci := 8) (st' := fun _ => []) ⟨_, rfl, rfl⟩ [am_R l1] [] dX8_read_2 okX8_begin lk_RX8_38 (fun zA zH zE => txX8_begin l0 l1 h zA zH zE) rfl (fun _ => rfl) (by decide) rfl (Nat.le_of_ble_eq_true rfl) (by decide) (by decide) (fun _ h1 => ?_)
  refine am_aload_n dX8_read_5 rfl ?_
  refine am_callV (cvj := am_cu) (mtj := mX8_next) (dj := 1) (nj := 0) (rcj := 0) (rsj := 0) (rc' := 0) (rs' := 0) (ci := 8) (st' := fun _ => []) ⟨_, rfl, rfl⟩ [] [] dX8_read_6 okX8_next lk_RX8_42 (fun zA zH zE => txX8_next l0 h1 zA zH zE) rfl (fun _ => rfl) (by decide) rfl (Nat.le_of_ble_eq_true rfl) (by decide) (by decide) (fun _ h2 => ?_)
  refine am_aload_n dX8_read_9 rfl ?_
  refine am_callV (cvj := am_cu) (mtj := mX8_key) (dj := 5) (nj := 0) (rcj := 0) (rsj := 0) (rc' := 0) (rs' := 0) (ci := 8) (st' := fun _ => []) ⟨_, rfl, rfl⟩ [] [] dX8_read_10 okX8_key lk_RX8_45 (fun zA zH zE => txX8_key l0 h2 zA zH zE) rfl (fun _ => rfl) (by decide) rfl (Nat.le_of_ble_eq_true rfl) (by decide) (by decide) (fun _ h3 => ?_)
  refine am_aload_n dX8_read_13 rfl ?_
  refine am_callV (cvj := am_cu) (mtj := mX8_next) (dj := 1) (nj := 0) (rcj := 0) (rsj := 0) (rc' := 0) (rs' := 0) (ci := 8) (st' := fun _ => []) ⟨_, rfl, rfl⟩ [] [] dX8_read_14 okX8_next lk_RX8_42 (fun zA zH zE => txX8_next l0 h3 zA zH zE) rfl (fun _ => rfl) (by decide) rfl (Nat.le_of_ble_eq_true rfl) (by decide) (by decide) (fun _ h4 => ?_)
  refine am_aload_n dX8_read_17 rfl ?_
  refine am_iconst (v := 0) dX8_read_18 (by decide) ?_
  refine am_iconst (v := 0) dX8_read_19 (by decide) ?_
  refine am_iconst (v := 0) dX8_read_20 (by decide) ?_
  refine am_callV (cvj := am_cu) (mtj := mX8_level) (dj := 600) (nj := 3) (rcj := 0) (rsj := 0) (rc' := 0) (rs' := 0) (ci := 8) (st' := fun _ => []) ⟨_, rfl, rfl⟩ [am_I (0 : Int32), am_I (0 : Int32), am_I (0 : Int32)] [] dX8_read_21 okX8_level lk_RX8_48 (fun zA zH zE => txX8_level l0 (0 : Int32) (0 : Int32) (0 : Int32) h4 zA zH zE) rfl (fun _ => rfl) (by decide) rfl (Nat.le_of_ble_eq_true rfl) (by decide) (by decide) (fun _ h5 => ?_)
  refine am_aload_n dX8_read_24 rfl ?_
  refine am_getI dX8_read_25 fk_RX8_29 rfl ?_
  refine am_if_eq (tgt := 35) dX8_read_28 (by decide) (fun c7 => ?_) (fun c7 => ?_)
  · exact am_weak (sxX8_read_b35 l0 h5) ⟨rfl, trivial⟩ (Nat.le_refl _) (Nat.le_refl _)
  refine am_aload_n dX8_read_31 rfl ?_
  refine am_callV (cvj := am_cu) (mtj := mX8_refuse) (dj := 0) (nj := 0) (rcj := 0) (rsj := 0) (rc' := 0) (rs' := 0) (ci := 8) (st' := fun _ => []) ⟨_, rfl, rfl⟩ [] [] dX8_read_32 okX8_refuse lk_RX8_52 (fun zA zH zE => txX8_refuse l0 h5 zA zH zE) rfl (fun _ => rfl) (by decide) rfl (Nat.le_of_ble_eq_true rfl) (by decide) (by decide) (fun _ h6 => ?_)
  exact am_weak (sxX8_read_b35 l0 h6) ⟨rfl, trivial⟩ (Nat.le_refl _) (Nat.le_refl _)
theorem txX8_read {xs : List Int32} (l0 : Option Nat) (l1 : Option Nat) (h : am_H) (a : Int32) (h2 : am_H) (e : fxX8_read l0 l1 h = some (a, h2)) : am_Ct xs mX8_read 601 0 0 [am_R l0, am_R l1] h (fun v h3 => v = am_ci a ∧ h3 = h2) := am_meth okX8_read (Nat.le_of_ble_eq_true rfl) rfl (sxX8_read l0 l1 h) e
theorem dX9_text_0 : am_at cX9_text 0 (.aload_n 0) 1 1 := by decide +kernel
theorem dX9_text_1 : am_at cX9_text 1 (.getfield 29) 3 4 := by decide +kernel
theorem dX9_text_4 : am_at cX9_text 4 (.aload_n 0) 1 5 := by decide +kernel
theorem dX9_text_5 : am_at cX9_text 5 (.getfield 10) 3 8 := by decide +kernel
theorem dX9_text_8 : am_at cX9_text 8 (.getfield 240) 3 11 := by decide +kernel
theorem dX9_text_11 : am_at cX9_text 11 (.invokevirtual 243) 3 14 := by decide +kernel
theorem dX9_text_14 : am_at cX9_text 14 (.astore_n 1) 1 15 := by decide +kernel
theorem dX9_text_15 : am_at cX9_text 15 (.aload_n 0) 1 16 := by decide +kernel
theorem dX9_text_16 : am_at cX9_text 16 (.getfield 36) 3 19 := by decide +kernel
theorem dX9_text_19 : am_at cX9_text 19 (.aload_n 1) 1 20 := by decide +kernel
theorem dX9_text_20 : am_at cX9_text 20 (.invokevirtual 247) 3 23 := by decide +kernel
theorem dX9_text_23 : am_at cX9_text 23 (.istore_n 2) 1 24 := by decide +kernel
theorem dX9_text_24 : am_at cX9_text 24 (.aload_n 0) 1 25 := by decide +kernel
theorem dX9_text_25 : am_at cX9_text 25 (.getfield 36) 3 28 := by decide +kernel
theorem dX9_text_28 : am_at cX9_text 28 (.iconst 0) 1 29 := by decide +kernel
theorem dX9_text_29 : am_at cX9_text 29 (.putfield 232) 3 32 := by decide +kernel
theorem dX9_text_32 : am_at cX9_text 32 (.iload_n 2) 1 33 := by decide +kernel
theorem dX9_text_33 : am_at cX9_text 33 (.ifCond .lt 10) 3 36 := by decide +kernel
theorem dX9_text_36 : am_at cX9_text 36 (.bipush (-100)) 2 38 := by decide +kernel
theorem dX9_text_38 : am_at cX9_text 38 (.iload_n 2) 1 39 := by decide +kernel
theorem dX9_text_39 : am_at cX9_text 39 (.isub) 1 40 := by decide +kernel
theorem dX9_text_40 : am_at cX9_text 40 (.goto 14) 3 43 := by decide +kernel
theorem dX9_text_43 : am_at cX9_text 43 (.aload_n 0) 1 44 := by decide +kernel
theorem dX9_text_44 : am_at cX9_text 44 (.getfield 10) 3 47 := by decide +kernel
theorem dX9_text_47 : am_at cX9_text 47 (.aload_n 1) 1 48 := by decide +kernel
theorem dX9_text_48 : am_at cX9_text 48 (.getfield 251) 3 51 := by decide +kernel
theorem dX9_text_51 : am_at cX9_text 51 (.invokevirtual 256) 3 54 := by decide +kernel
theorem dX9_text_54 : am_at cX9_text 54 (.ireturn) 1 55 := by decide +kernel
def fxX9_text (l0 : Option Nat) (h : am_H) : Option (Int32 × am_H) := am_gd (am_ob h l0 9) (am_gd (am_ob h l0 9) (am_gd (am_ob h (am_gr h l0 0) 2) (am_gd (am_ob h (am_gr h l0 4) 0) (am_bd (fxX0_lawOf (am_gr h l0 4) (am_gi h (am_gr h l0 0) 8) h) (fun r1 h2 => am_lt r1 (fun q3 => am_gd (am_ob h2 l0 9) (am_gd (am_ob h2 (am_gr h2 l0 5) 8) (am_bd (fxX8_read (am_gr h2 l0 5) q3 h2) (fun r4 h5 => am_lt r4 (fun x6 => am_gd (am_ob h5 l0 9) (am_gd (am_ob h5 (am_gr h5 l0 5) 8) (am_lt (am_si h5 (am_gr h5 l0 5) 1 (0 : Int32)) (fun h7 => if x6 < 0 then (am_gd (am_ob h7 l0 9) (am_gd (am_ob h7 q3 3) (am_gd (am_ob h7 (am_gr h7 l0 0) 2) (am_bd (fxX2_addText (am_gr h7 l0 0) (am_gi h7 q3 0) h7) (fun r8 h9 => some (r8, h9)))))) else (some (((-100 : Int32) - x6), h7)))))))))))))))
set_option maxRecDepth 100000 in
theorem sxX9_text {xs : List Int32} (l0 : Option Nat) (h : am_H) : am_Sm xs am_ci mX9_text 602 0 0 0 [some (am_R l0), none, none] [] h (fxX9_text l0 h) := by
  unfold fxX9_text
  refine am_aload_n dX9_text_0 rfl ?_
  refine am_getR dX9_text_1 fk_RX9_29 rfl ?_
  refine am_aload_n dX9_text_4 rfl ?_
  refine am_getR dX9_text_5 fk_RX9_10 rfl ?_
  refine am_getI dX9_text_8 fk_RX9_240 rfl ?_
  refine am_callV (cvj := am_cr) (mtj := mX0_lawOf) (dj := 1) (nj := 1) (rcj := 0) (rsj := 0) (rc' := 0) (rs' := 0) (ci := 0) (st' := fun a9 => (am_R a9 :: [])) ⟨_, rfl, rfl⟩ [am_I (am_gi h (am_gr h l0 0) 8)] [] dX9_text_11 okX0_lawOf lk_RX9_243 (fun zA zH zE => txX0_lawOf (am_gr h l0 4) (am_gi h (am_gr h l0 0) 8) h zA zH zE) rfl (fun _ => rfl) (by decide) rfl (Nat.le_of_ble_eq_true rfl) (by decide) (by decide) (fun r1 h2 => ?_)
  refine am_astore_n (LL := fun y9 => [some (am_R l0), some (am_R y9), none]) dX9_text_14 (by decide) (fun _ => rfl) (fun q3 => ?_)
  refine am_aload_n dX9_text_15 rfl ?_
  refine am_getR dX9_text_16 fk_RX9_36 rfl ?_
  refine am_aload_n dX9_text_19 rfl ?_
  refine am_callV (cvj := am_ci) (mtj := mX8_read) (dj := 601) (nj := 1) (rcj := 0) (rsj := 0) (rc' := 0) (rs' := 0) (ci := 8) (st' := fun a9 => (am_I a9 :: [])) ⟨_, rfl, rfl⟩ [am_R q3] [] dX9_text_20 okX8_read lk_RX9_247 (fun zA zH zE => txX8_read (am_gr h2 l0 5) q3 h2 zA zH zE) rfl (fun _ => rfl) (by decide) rfl (Nat.le_of_ble_eq_true rfl) (by decide) (by decide) (fun r4 h5 => ?_)
  refine am_istore_n (LL := fun y9 => [some (am_R l0), some (am_R q3), some (am_I y9)]) dX9_text_23 (by decide) (fun _ => rfl) (fun x6 => ?_)
  refine am_aload_n dX9_text_24 rfl ?_
  refine am_getR dX9_text_25 fk_RX9_36 rfl ?_
  refine am_iconst (v := 0) dX9_text_28 (by decide) ?_
  refine am_putI dX9_text_29 fk_RX9_232 ⟨_, rfl, Or.inl rfl⟩ rfl (fun h7 => ?_)
  refine am_iload_n dX9_text_32 rfl ?_
  refine am_if_lt (tgt := 43) dX9_text_33 (by decide) (fun c10 => ?_) (fun c10 => ?_)
  · refine am_aload_n dX9_text_43 rfl ?_
    refine am_getR dX9_text_44 fk_RX9_10 rfl ?_
    refine am_aload_n dX9_text_47 rfl ?_
    refine am_getI dX9_text_48 fk_RX9_251 rfl ?_
    refine am_callV (cvj := am_ci) (mtj := mX2_addText) (dj := 0) (nj := 1) (rcj := 0) (rsj := 0) (rc' := 0) (rs' := 0) (ci := 2) (st' := fun a9 => (am_I a9 :: [])) ⟨_, rfl, rfl⟩ [am_I (am_gi h7 q3 0)] [] dX9_text_51 okX2_addText lk_RX9_256 (fun zA zH zE => txX2_addText (am_gr h7 l0 0) (am_gi h7 q3 0) h7 zA zH zE) rfl (fun _ => rfl) (by decide) rfl (Nat.le_of_ble_eq_true rfl) (by decide) (by decide) (fun r8 h9 => ?_)
    exact am_iret dX9_text_54 rfl rfl
  refine am_bipush (v := (-100)) dX9_text_36 (by decide) ?_
  refine am_iload_n dX9_text_38 rfl ?_
  refine am_isub dX9_text_39 ?_
  refine am_goto (tgt := 54) dX9_text_40 (by decide) ?_
  exact am_iret dX9_text_54 rfl rfl
theorem txX9_text {xs : List Int32} (l0 : Option Nat) (h : am_H) (a : Int32) (h2 : am_H) (e : fxX9_text l0 h = some (a, h2)) : am_Ct xs mX9_text 602 0 0 [am_R l0] h (fun v h3 => v = am_ci a ∧ h3 = h2) := am_meth okX9_text (Nat.le_of_ble_eq_true rfl) rfl (sxX9_text l0 h) e
