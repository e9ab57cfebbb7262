theorem dX3_init_0 : am_at cX3_init 0 (.aload_n 0) 1 1 := by decide +kernel
theorem dX3_init_1 : am_at cX3_init 1 (.invokespecial 3) 3 4 := by decide +kernel
theorem dX3_init_4 : am_at cX3_init 4 (.aload_n 0) 1 5 := by decide +kernel
theorem dX3_init_5 : am_at cX3_init 5 (.bipush 96) 2 7 := by decide +kernel
theorem dX3_init_7 : am_at cX3_init 7 (.newarray .int) 2 9 := by decide +kernel
theorem dX3_init_9 : am_at cX3_init 9 (.putfield 9) 3 12 := by decide +kernel
theorem dX3_init_12 : am_at cX3_init 12 (.aload_n 0) 1 13 := by decide +kernel
theorem dX3_init_13 : am_at cX3_init 13 (.iconst 0) 1 14 := by decide +kernel
theorem dX3_init_14 : am_at cX3_init 14 (.putfield 15) 3 17 := by decide +kernel
theorem dX3_init_17 : am_at cX3_init 17 (.aload_n 0) 1 18 := by decide +kernel
theorem dX3_init_18 : am_at cX3_init 18 (.iconst 0) 1 19 := by decide +kernel
theorem dX3_init_19 : am_at cX3_init 19 (.putfield 19) 3 22 := by decide +kernel
theorem dX3_init_22 : am_at cX3_init 22 (.aload_n 0) 1 23 := by decide +kernel
theorem dX3_init_23 : am_at cX3_init 23 (.iconst 0) 1 24 := by decide +kernel
theorem dX3_init_24 : am_at cX3_init 24 (.putfield 22) 3 27 := by decide +kernel
theorem dX3_init_27 : am_at cX3_init 27 (.return_) 1 28 := by decide +kernel
def fxX3_init (l0 : Option Nat) (h : am_H) : Option (Unit × am_H) := am_gd l0.isSome (am_lt (am_nw h (.inl (0, 96))) (fun h1 => am_gd (am_ob h1 l0 3) (am_lt (am_sr h1 l0 2 (some h.1)) (fun h2 => am_gd (am_ob h2 l0 3) (am_lt (am_si h2 l0 0 (0 : Int32)) (fun h3 => am_gd (am_ob h3 l0 3) (am_lt (am_si h3 l0 1 (0 : Int32)) (fun h4 => am_gd (am_ob h4 l0 3) (am_lt (am_si h4 l0 3 (0 : Int32)) (fun h5 => some ((), h5)))))))))))
set_option maxRecDepth 100000 in
theorem sxX3_init {xs : List Int32} (l0 : Option Nat) (h : am_H) : am_Sm xs am_cu mX3_init 1 1 96 0 [some (am_R l0)] [] h (fxX3_init l0 h) := by
  unfold fxX3_init
  refine am_aload_n dX3_init_0 rfl ?_
  refine am_objInit dX3_init_1 wd121 wd25 wd26 (by decide) (Nat.le_of_ble_eq_true rfl) ?_
  refine am_aload_n dX3_init_4 rfl ?_
  refine am_bipush (v := 96) dX3_init_5 (by decide) ?_
  refine am_newI (N := 96) (rc' := 0) (rs' := 0) dX3_init_7 wd108 (by decide) (by decide) (by decide) (by omega) (by omega) (fun h1 => ?_)
  refine am_putR dX3_init_9 fk_RX3_9 ⟨_, rfl, Or.inr ⟨rfl, rfl, rfl⟩⟩ rfl (fun h2 => ?_)
  refine am_aload_n dX3_init_12 rfl ?_
  refine am_iconst (v := 0) dX3_init_13 (by decide) ?_
  refine am_putI dX3_init_14 fk_RX3_15 ⟨_, rfl, Or.inl rfl⟩ rfl (fun h3 => ?_)
  refine am_aload_n dX3_init_17 rfl ?_
  refine am_iconst (v := 0) dX3_init_18 (by decide) ?_
  refine am_putI dX3_init_19 fk_RX3_19 ⟨_, rfl, Or.inl rfl⟩ rfl (fun h4 => ?_)
  refine am_aload_n dX3_init_22 rfl ?_
  refine am_iconst (v := 0) dX3_init_23 (by decide) ?_
  refine am_putI dX3_init_24 fk_RX3_22 ⟨_, rfl, Or.inl rfl⟩ rfl (fun h5 => ?_)
  exact am_vret dX3_init_27 rfl rfl
theorem txX3_init {xs : List Int32} (l0 : Option Nat) (h : am_H) (a : Unit) (h2 : am_H) (e : fxX3_init l0 h = some (a, h2)) : am_Ct xs mX3_init 1 1 96 [am_R l0] h (fun v h3 => v = am_cu a ∧ h3 = h2) := am_meth okX3_init (Nat.le_of_ble_eq_true rfl) rfl (sxX3_init l0 h) e
theorem dX0_init_0 : am_at cX0_init 0 (.aload_n 0) 1 1 := by decide +kernel
theorem dX0_init_1 : am_at cX0_init 1 (.invokespecial 3) 3 4 := by decide +kernel
theorem dX0_init_4 : am_at cX0_init 4 (.aload_n 0) 1 5 := by decide +kernel
theorem dX0_init_5 : am_at cX0_init 5 (.bipush 14) 2 7 := by decide +kernel
theorem dX0_init_7 : am_at cX0_init 7 (.anewarray 9) 3 10 := by decide +kernel
theorem dX0_init_10 : am_at cX0_init 10 (.putfield 11) 3 13 := by decide +kernel
theorem dX0_init_13 : am_at cX0_init 13 (.iconst 0) 1 14 := by decide +kernel
theorem dX0_init_14 : am_at cX0_init 14 (.istore_n 1) 1 15 := by decide +kernel
theorem dX0_init_15 : am_at cX0_init 15 (.iload_n 1) 1 16 := by decide +kernel
theorem dX0_init_16 : am_at cX0_init 16 (.bipush 14) 2 18 := by decide +kernel
theorem dX0_init_18 : am_at cX0_init 18 (.if_icmp .ge 22) 3 21 := by decide +kernel
theorem dX0_init_21 : am_at cX0_init 21 (.aload_n 0) 1 22 := by decide +kernel
theorem dX0_init_22 : am_at cX0_init 22 (.getfield 11) 3 25 := by decide +kernel
theorem dX0_init_25 : am_at cX0_init 25 (.iload_n 1) 1 26 := by decide +kernel
theorem dX0_init_26 : am_at cX0_init 26 (.new 9) 3 29 := by decide +kernel
theorem dX0_init_29 : am_at cX0_init 29 (.dup) 1 30 := by decide +kernel
theorem dX0_init_30 : am_at cX0_init 30 (.invokespecial 17) 3 33 := by decide +kernel
theorem dX0_init_33 : am_at cX0_init 33 (.aastore) 1 34 := by decide +kernel
theorem dX0_init_34 : am_at cX0_init 34 (.iinc 1 1) 3 37 := by decide +kernel
theorem dX0_init_37 : am_at cX0_init 37 (.goto (-22)) 3 40 := by decide +kernel
theorem dX0_init_40 : am_at cX0_init 40 (.aload_n 0) 1 41 := by decide +kernel
theorem dX0_init_41 : am_at cX0_init 41 (.new 9) 3 44 := by decide +kernel
theorem dX0_init_44 : am_at cX0_init 44 (.dup) 1 45 := by decide +kernel
theorem dX0_init_45 : am_at cX0_init 45 (.invokespecial 17) 3 48 := by decide +kernel
theorem dX0_init_48 : am_at cX0_init 48 (.putfield 18) 3 51 := by decide +kernel
theorem dX0_init_51 : am_at cX0_init 51 (.aload_n 0) 1 52 := by decide +kernel
theorem dX0_init_52 : am_at cX0_init 52 (.bipush 96) 2 54 := by decide +kernel
theorem dX0_init_54 : am_at cX0_init 54 (.newarray .int) 2 56 := by decide +kernel
theorem dX0_init_56 : am_at cX0_init 56 (.putfield 22) 3 59 := by decide +kernel
theorem dX0_init_59 : am_at cX0_init 59 (.return_) 1 60 := by decide +kernel
def fxX0_init_b15 : Nat → Option Nat → Int32 → am_H → Option (Unit × am_H)
  | 0, _, _, _ => none
  | n + 1, l0, l1, h => if (14 : Int32) ≤ l1 then (am_lt (am_nw h (.inr 3)) (fun h4 => am_gd (some h.1).isSome (am_bd (fxX3_init (some h.1) h4) (fun _ h5 => am_gd (am_ob h5 l0 0) (am_lt (am_sr h5 l0 1 (some h.1)) (fun h6 => am_lt (am_nw h6 (.inl (0, 96))) (fun h7 => am_gd (am_ob h7 l0 0) (am_lt (am_sr h7 l0 2 (some h6.1)) (fun h8 => some ((), h8)))))))))) else (am_gd (am_ob h l0 0) (am_lt (am_nw h (.inr 3)) (fun h9 => am_gd (some h.1).isSome (am_bd (fxX3_init (some h.1) h9) (fun _ h10 => am_gd (am_ix h10 (am_gr h l0 0) 4 l1 && am_ob h10 (some h.1) (am_ec 4)) (am_lt (am_sr h10 (am_gr h l0 0) l1.toNatClampNeg (some h.1)) (fun h11 => am_lt (l1 + 1) (fun x12 => fxX0_init_b15 n l0 x12 h11))))))))
set_option maxRecDepth 100000 in
theorem sxX0_init_b15 {xs : List Int32} : ∀ (n : Nat) (l0 : Option Nat) (l1 : Int32) (h : am_H), am_Sm xs am_cu mX0_init 2 (3 + n * 2) (196 + n * 100) 15 [some (am_R l0), some (am_I l1)] [] h (fxX0_init_b15 n l0 l1 h) := by
  intro n
  induction n with
  | zero => intros; exact am_none
  | succ n ih =>
    intro l0 l1 h
    rw [fxX0_init_b15]
    refine am_rcw (rc' := 5 + n * 2) (rs' := 296 + n * 100) ?_ (by rw [Nat.add_mul]; omega) (by rw [Nat.add_mul]; omega)
    refine am_iload_n dX0_init_15 rfl ?_
    refine am_bipush (v := 14) dX0_init_16 (by decide) ?_
    refine am_icmp_ge (tgt := 40) dX0_init_18 (by decide) (fun c13 => ?_) (fun c13 => ?_)
    · refine am_rcw (rc' := 3) (rs' := 196) ?_ (by omega) (by omega)
      refine am_aload_n dX0_init_40 rfl ?_
      refine am_new (ci := 3) (rc' := 2) (rs' := 192) dX0_init_41 ⟨_, rfl, wd115, wd117, wd5⟩ (by omega) (by show _ + 4 ≤ _; omega) (fun h4 => ?_)
      refine am_dup dX0_init_44 ?_
      refine am_callI (cvj := am_cu) (mtj := mX3_init) (dj := 1) (nj := 0) (rcj := 1) (rsj := 96) (rc' := 1) (rs' := 96) (st' := fun _ => [am_R (some h.1), am_R l0]) [] [am_R (some h.1), am_R l0] dX0_init_45 okX3_init lk_RX0_17 (fun zA zH zE => txX3_init (some h.1) h4 zA zH zE) rfl (fun _ => rfl) (by decide) rfl (Nat.le_of_ble_eq_true rfl) (by omega) (by omega) (fun _ h5 => ?_)
      refine am_putR dX0_init_48 fk_RX0_18 ⟨_, rfl, Or.inr ⟨rfl, rfl, rfl⟩⟩ rfl (fun h6 => ?_)
      refine am_aload_n dX0_init_51 rfl ?_
      refine am_bipush (v := 96) dX0_init_52 (by decide) ?_
      refine am_newI (N := 96) (rc' := 0) (rs' := 0) dX0_init_54 wd108 (by decide) (by decide) (by decide) (by omega) (by omega) (fun h7 => ?_)
      refine am_putR dX0_init_56 fk_RX0_22 ⟨_, rfl, Or.inr ⟨rfl, rfl, rfl⟩⟩ rfl (fun h8 => ?_)
      exact am_vret dX0_init_59 rfl rfl
    refine am_rcw (rc' := (5 + n * 2)) (rs' := (296 + n * 100)) ?_ (by omega) (by omega)
    refine am_aload_n dX0_init_21 rfl ?_
    refine am_getR dX0_init_22 fk_RX0_11 rfl ?_
    refine am_iload_n dX0_init_25 rfl ?_
    refine am_new (ci := 3) (rc' := (4 + n * 2)) (rs' := (292 + n * 100)) dX0_init_26 ⟨_, rfl, wd115, wd117, wd5⟩ (by omega) (by show _ + 4 ≤ _; omega) (fun h9 => ?_)
    refine am_dup dX0_init_29 ?_
    refine am_callI (cvj := am_cu) (mtj := mX3_init) (dj := 1) (nj := 0) (rcj := 1) (rsj := 96) (rc' := (3 + n * 2)) (rs' := (196 + n * 100)) (st' := fun _ => [am_R (some h.1), am_I l1, am_R (am_gr h l0 0)]) [] [am_R (some h.1), am_I l1, am_R (am_gr h l0 0)] dX0_init_30 okX3_init lk_RX0_17 (fun zA zH zE => txX3_init (some h.1) h9 zA zH zE) rfl (fun _ => rfl) (by decide) rfl (Nat.le_of_ble_eq_true rfl) (by omega) (by omega) (fun _ h10 => ?_)
    refine am_aast (t := 4) dX0_init_33 (by decide) (by decide) (fun h11 => ?_)
    refine am_iinc (v := 1) (LL := fun y9 => [some (am_R l0), some (am_I y9)]) dX0_init_34 (by decide) rfl (by decide) (fun _ => rfl) (fun x12 => ?_)
    refine am_goto (tgt := 15) dX0_init_37 (by decide) ?_
    exact am_weak (ih l0 x12 h11) ⟨rfl, ⟨rfl, trivial⟩⟩ (by first | omega | (unfold am_G; omega)) (by first | omega | (unfold am_G; omega))
def fxX0_init (l0 : Option Nat) (h : am_H) : Option (Unit × am_H) := am_gd l0.isSome (am_lt (am_nw h (.inl (4, 14))) (fun h1 => am_gd (am_ob h1 l0 0) (am_lt (am_sr h1 l0 0 (some h.1)) (fun h2 => am_lt (0 : Int32) (fun x3 => fxX0_init_b15 am_G l0 x3 h2)))))
set_option maxRecDepth 100000 in
theorem sxX0_init {xs : List Int32} (l0 : Option Nat) (h : am_H) : am_Sm xs am_cu mX0_init 2 44 2210 0 [some (am_R l0), none] [] h (fxX0_init l0 h) := by
  unfold fxX0_init
  refine am_aload_n dX0_init_0 rfl ?_
  refine am_objInit dX0_init_1 wd114 wd25 wd26 (by decide) (Nat.le_of_ble_eq_true rfl) ?_
  refine am_aload_n dX0_init_4 rfl ?_
  refine am_bipush (v := 14) dX0_init_5 (by decide) ?_
  refine am_newR (t := 4) (N := 14) (rc' := 43) (rs' := 2196) dX0_init_7 (by decide) (by decide) wd115 (by decide) (by decide) (by decide) (by omega) (by omega) (fun h1 => ?_)
  refine am_putR dX0_init_10 fk_RX0_11 ⟨_, rfl, Or.inr ⟨rfl, rfl, rfl⟩⟩ rfl (fun h2 => ?_)
  refine am_iconst (v := 0) dX0_init_13 (by decide) ?_
  refine am_istore_n (LL := fun y9 => [some (am_R l0), some (am_I y9)]) dX0_init_14 (by decide) (fun _ => rfl) (fun x3 => ?_)
  exact am_weak (sxX0_init_b15 am_G l0 x3 h2) ⟨rfl, ⟨rfl, trivial⟩⟩ (by first | omega | (unfold am_G; omega)) (by first | omega | (unfold am_G; omega))
theorem txX0_init {xs : List Int32} (l0 : Option Nat) (h : am_H) (a : Unit) (h2 : am_H) (e : fxX0_init l0 h = some (a, h2)) : am_Ct xs mX0_init 2 44 2210 [am_R l0] h (fun v h3 => v = am_cu a ∧ h3 = h2) := am_meth okX0_init (Nat.le_of_ble_eq_true rfl) rfl (sxX0_init l0 h) e
theorem dX1_init_0 : am_at cX1_init 0 (.aload_n 0) 1 1 := by decide +kernel
theorem dX1_init_1 : am_at cX1_init 1 (.invokespecial 3) 3 4 := by decide +kernel
theorem dX1_init_4 : am_at cX1_init 4 (.return_) 1 5 := by decide +kernel
def fxX1_init (l0 : Option Nat) (h : am_H) : Option (Unit × am_H) := am_gd l0.isSome (some ((), h))
set_option maxRecDepth 100000 in
theorem sxX1_init {xs : List Int32} (l0 : Option Nat) (h : am_H) : am_Sm xs am_cu mX1_init 1 0 0 0 [some (am_R l0)] [] h (fxX1_init l0 h) := by
  unfold fxX1_init
  refine am_aload_n dX1_init_0 rfl ?_
  refine am_objInit dX1_init_1 wd39 wd25 wd26 (by decide) (Nat.le_of_ble_eq_true rfl) ?_
  exact am_vret dX1_init_4 rfl rfl
theorem txX1_init {xs : List Int32} (l0 : Option Nat) (h : am_H) (a : Unit) (h2 : am_H) (e : fxX1_init l0 h = some (a, h2)) : am_Ct xs mX1_init 1 0 0 [am_R l0] h (fun v h3 => v = am_cu a ∧ h3 = h2) := am_meth okX1_init (Nat.le_of_ble_eq_true rfl) rfl (sxX1_init l0 h) e
theorem dX2_init_0 : am_at cX2_init 0 (.aload_n 0) 1 1 := by decide +kernel
theorem dX2_init_1 : am_at cX2_init 1 (.invokespecial 3) 3 4 := by decide +kernel
theorem dX2_init_4 : am_at cX2_init 4 (.aload_n 0) 1 5 := by decide +kernel
theorem dX2_init_5 : am_at cX2_init 5 (.bipush 10) 2 7 := by decide +kernel
theorem dX2_init_7 : am_at cX2_init 7 (.anewarray 9) 3 10 := by decide +kernel
theorem dX2_init_10 : am_at cX2_init 10 (.putfield 11) 3 13 := by decide +kernel
theorem dX2_init_13 : am_at cX2_init 13 (.iconst 0) 1 14 := by decide +kernel
theorem dX2_init_14 : am_at cX2_init 14 (.istore_n 1) 1 15 := by decide +kernel
theorem dX2_init_15 : am_at cX2_init 15 (.iload_n 1) 1 16 := by decide +kernel
theorem dX2_init_16 : am_at cX2_init 16 (.bipush 10) 2 18 := by decide +kernel
theorem dX2_init_18 : am_at cX2_init 18 (.if_icmp .ge 22) 3 21 := by decide +kernel
theorem dX2_init_21 : am_at cX2_init 21 (.aload_n 0) 1 22 := by decide +kernel
theorem dX2_init_22 : am_at cX2_init 22 (.getfield 11) 3 25 := by decide +kernel
theorem dX2_init_25 : am_at cX2_init 25 (.iload_n 1) 1 26 := by decide +kernel
theorem dX2_init_26 : am_at cX2_init 26 (.new 9) 3 29 := by decide +kernel
theorem dX2_init_29 : am_at cX2_init 29 (.dup) 1 30 := by decide +kernel
theorem dX2_init_30 : am_at cX2_init 30 (.invokespecial 17) 3 33 := by decide +kernel
theorem dX2_init_33 : am_at cX2_init 33 (.aastore) 1 34 := by decide +kernel
theorem dX2_init_34 : am_at cX2_init 34 (.iinc 1 1) 3 37 := by decide +kernel
theorem dX2_init_37 : am_at cX2_init 37 (.goto (-22)) 3 40 := by decide +kernel
theorem dX2_init_40 : am_at cX2_init 40 (.aload_n 0) 1 41 := by decide +kernel
theorem dX2_init_41 : am_at cX2_init 41 (.iconst 0) 1 42 := by decide +kernel
theorem dX2_init_42 : am_at cX2_init 42 (.putfield 18) 3 45 := by decide +kernel
theorem dX2_init_45 : am_at cX2_init 45 (.aload_n 0) 1 46 := by decide +kernel
theorem dX2_init_46 : am_at cX2_init 46 (.iconst 5) 1 47 := by decide +kernel
theorem dX2_init_47 : am_at cX2_init 47 (.putfield 22) 3 50 := by decide +kernel
theorem dX2_init_50 : am_at cX2_init 50 (.aload_n 0) 1 51 := by decide +kernel
theorem dX2_init_51 : am_at cX2_init 51 (.iconst 0) 1 52 := by decide +kernel
theorem dX2_init_52 : am_at cX2_init 52 (.putfield 25) 3 55 := by decide +kernel
theorem dX2_init_55 : am_at cX2_init 55 (.aload_n 0) 1 56 := by decide +kernel
theorem dX2_init_56 : am_at cX2_init 56 (.iconst 1) 1 57 := by decide +kernel
theorem dX2_init_57 : am_at cX2_init 57 (.putfield 28) 3 60 := by decide +kernel
theorem dX2_init_60 : am_at cX2_init 60 (.aload_n 0) 1 61 := by decide +kernel
theorem dX2_init_61 : am_at cX2_init 61 (.bipush 10) 2 63 := by decide +kernel
theorem dX2_init_63 : am_at cX2_init 63 (.newarray .int) 2 65 := by decide +kernel
theorem dX2_init_65 : am_at cX2_init 65 (.putfield 31) 3 68 := by decide +kernel
theorem dX2_init_68 : am_at cX2_init 68 (.aload_n 0) 1 69 := by decide +kernel
theorem dX2_init_69 : am_at cX2_init 69 (.bipush 10) 2 71 := by decide +kernel
theorem dX2_init_71 : am_at cX2_init 71 (.newarray .int) 2 73 := by decide +kernel
theorem dX2_init_73 : am_at cX2_init 73 (.putfield 35) 3 76 := by decide +kernel
theorem dX2_init_76 : am_at cX2_init 76 (.aload_n 0) 1 77 := by decide +kernel
theorem dX2_init_77 : am_at cX2_init 77 (.iconst 0) 1 78 := by decide +kernel
theorem dX2_init_78 : am_at cX2_init 78 (.putfield 38) 3 81 := by decide +kernel
theorem dX2_init_81 : am_at cX2_init 81 (.aload_n 0) 1 82 := by decide +kernel
theorem dX2_init_82 : am_at cX2_init 82 (.iconst 0) 1 83 := by decide +kernel
theorem dX2_init_83 : am_at cX2_init 83 (.putfield 41) 3 86 := by decide +kernel
theorem dX2_init_86 : am_at cX2_init 86 (.aload_n 0) 1 87 := by decide +kernel
theorem dX2_init_87 : am_at cX2_init 87 (.iconst 3) 1 88 := by decide +kernel
theorem dX2_init_88 : am_at cX2_init 88 (.newarray .int) 2 90 := by decide +kernel
theorem dX2_init_90 : am_at cX2_init 90 (.putfield 44) 3 93 := by decide +kernel
theorem dX2_init_93 : am_at cX2_init 93 (.iconst 0) 1 94 := by decide +kernel
theorem dX2_init_94 : am_at cX2_init 94 (.istore_n 1) 1 95 := by decide +kernel
theorem dX2_init_95 : am_at cX2_init 95 (.iload_n 1) 1 96 := by decide +kernel
theorem dX2_init_96 : am_at cX2_init 96 (.iconst 3) 1 97 := by decide +kernel
theorem dX2_init_97 : am_at cX2_init 97 (.if_icmp .ge 16) 3 100 := by decide +kernel
theorem dX2_init_100 : am_at cX2_init 100 (.aload_n 0) 1 101 := by decide +kernel
theorem dX2_init_101 : am_at cX2_init 101 (.getfield 44) 3 104 := by decide +kernel
theorem dX2_init_104 : am_at cX2_init 104 (.iload_n 1) 1 105 := by decide +kernel
theorem dX2_init_105 : am_at cX2_init 105 (.iconst (-1)) 1 106 := by decide +kernel
theorem dX2_init_106 : am_at cX2_init 106 (.iastore) 1 107 := by decide +kernel
theorem dX2_init_107 : am_at cX2_init 107 (.iinc 1 1) 3 110 := by decide +kernel
theorem dX2_init_110 : am_at cX2_init 110 (.goto (-15)) 3 113 := by decide +kernel
theorem dX2_init_113 : am_at cX2_init 113 (.return_) 1 114 := by decide +kernel
def fxX2_init_b95 : Nat → Option Nat → Int32 → am_H → Option (Unit × am_H)
  | 0, _, _, _ => none
  | n + 1, l0, l1, h => if (3 : Int32) ≤ l1 then (some ((), h)) else (am_gd (am_ob h l0 2) (am_gd (am_ix h (am_gr h l0 9) 0 l1) (am_lt (am_si h (am_gr h l0 9) l1.toNatClampNeg (-1 : Int32)) (fun h22 => am_lt (l1 + 1) (fun x23 => fxX2_init_b95 n l0 x23 h22)))))
set_option maxRecDepth 100000 in
theorem sxX2_init_b95 {xs : List Int32} : ∀ (n : Nat) (l0 : Option Nat) (l1 : Int32) (h : am_H), am_Sm xs am_cu mX2_init 2 0 0 95 [some (am_R l0), some (am_I l1)] [] h (fxX2_init_b95 n l0 l1 h) := by
  intro n
  induction n with
  | zero => intros; exact am_none
  | succ n ih =>
    intro l0 l1 h
    rw [fxX2_init_b95]
    refine am_iload_n dX2_init_95 rfl ?_
    refine am_iconst (v := 3) dX2_init_96 (by decide) ?_
    refine am_icmp_ge (tgt := 113) dX2_init_97 (by decide) (fun c24 => ?_) (fun c24 => ?_)
    · refine am_rcw (rc' := 0) (rs' := 0) ?_ (by omega) (by omega)
      exact am_vret dX2_init_113 rfl rfl
    refine am_rcw (rc' := 0) (rs' := 0) ?_ (by omega) (by omega)
    refine am_aload_n dX2_init_100 rfl ?_
    refine am_getR dX2_init_101 fk_RX2_44 rfl ?_
    refine am_iload_n dX2_init_104 rfl ?_
    refine am_iconst (v := (-1)) dX2_init_105 (by decide) ?_
    refine am_iast dX2_init_106 (fun h22 => ?_)
    refine am_iinc (v := 1) (LL := fun y9 => [some (am_R l0), some (am_I y9)]) dX2_init_107 (by decide) rfl (by decide) (fun _ => rfl) (fun x23 => ?_)
    refine am_goto (tgt := 95) dX2_init_110 (by decide) ?_
    exact am_weak (ih l0 x23 h22) ⟨rfl, ⟨rfl, trivial⟩⟩ (by first | omega | (unfold am_G; omega)) (by first | omega | (unfold am_G; omega))
def fxX2_init_b15 : Nat → Option Nat → Int32 → am_H → Option (Unit × am_H)
  | 0, _, _, _ => none
  | n + 1, l0, l1, h => if (10 : Int32) ≤ l1 then (am_gd (am_ob h l0 2) (am_lt (am_si h l0 1 (0 : Int32)) (fun h4 => am_gd (am_ob h4 l0 2) (am_lt (am_si h4 l0 2 (5 : Int32)) (fun h5 => am_gd (am_ob h5 l0 2) (am_lt (am_si h5 l0 3 (0 : Int32)) (fun h6 => am_gd (am_ob h6 l0 2) (am_lt (am_si h6 l0 4 (1 : Int32)) (fun h7 => am_lt (am_nw h7 (.inl (0, 10))) (fun h8 => am_gd (am_ob h8 l0 2) (am_lt (am_sr h8 l0 5 (some h7.1)) (fun h9 => am_lt (am_nw h9 (.inl (0, 10))) (fun h10 => am_gd (am_ob h10 l0 2) (am_lt (am_sr h10 l0 6 (some h9.1)) (fun h11 => am_gd (am_ob h11 l0 2) (am_lt (am_si h11 l0 7 (0 : Int32)) (fun h12 => am_gd (am_ob h12 l0 2) (am_lt (am_si h12 l0 8 (0 : Int32)) (fun h13 => am_lt (am_nw h13 (.inl (0, 3))) (fun h14 => am_gd (am_ob h14 l0 2) (am_lt (am_sr h14 l0 9 (some h13.1)) (fun h15 => am_lt (0 : Int32) (fun x16 => fxX2_init_b95 am_F l0 x16 h15))))))))))))))))))))))) else (am_gd (am_ob h l0 2) (am_lt (am_nw h (.inr 1)) (fun h17 => am_gd (some h.1).isSome (am_bd (fxX1_init (some h.1) h17) (fun _ h18 => am_gd (am_ix h18 (am_gr h l0 0) 3 l1 && am_ob h18 (some h.1) (am_ec 3)) (am_lt (am_sr h18 (am_gr h l0 0) l1.toNatClampNeg (some h.1)) (fun h19 => am_lt (l1 + 1) (fun x20 => fxX2_init_b15 n l0 x20 h19))))))))
set_option maxRecDepth 100000 in
theorem sxX2_init_b15 {xs : List Int32} : ∀ (n : Nat) (l0 : Option Nat) (l1 : Int32) (h : am_H), am_Sm xs am_cu mX2_init 2 (3 + n * 1) (23 + n * 6) 15 [some (am_R l0), some (am_I l1)] [] h (fxX2_init_b15 n l0 l1 h) := by
  intro n
  induction n with
  | zero => intros; exact am_none
  | succ n ih =>
    intro l0 l1 h
    rw [fxX2_init_b15]
    refine am_rcw (rc' := 4 + n * 1) (rs' := 29 + n * 6) ?_ (by rw [Nat.add_mul]; omega) (by rw [Nat.add_mul]; omega)
    refine am_iload_n dX2_init_15 rfl ?_
    refine am_bipush (v := 10) dX2_init_16 (by decide) ?_
    refine am_icmp_ge (tgt := 40) dX2_init_18 (by decide) (fun c21 => ?_) (fun c21 => ?_)
    · refine am_rcw (rc' := 3) (rs' := 23) ?_ (by omega) (by omega)
      refine am_aload_n dX2_init_40 rfl ?_
      refine am_iconst (v := 0) dX2_init_41 (by decide) ?_
      refine am_putI dX2_init_42 fk_RX2_18 ⟨_, rfl, Or.inl rfl⟩ rfl (fun h4 => ?_)
      refine am_aload_n dX2_init_45 rfl ?_
      refine am_iconst (v := 5) dX2_init_46 (by decide) ?_
      refine am_putI dX2_init_47 fk_RX2_22 ⟨_, rfl, Or.inl rfl⟩ rfl (fun h5 => ?_)
      refine am_aload_n dX2_init_50 rfl ?_
      refine am_iconst (v := 0) dX2_init_51 (by decide) ?_
      refine am_putI dX2_init_52 fk_RX2_25 ⟨_, rfl, Or.inl rfl⟩ rfl (fun h6 => ?_)
      refine am_aload_n dX2_init_55 rfl ?_
      refine am_iconst (v := 1) dX2_init_56 (by decide) ?_
      refine am_putI dX2_init_57 fk_RX2_28 ⟨_, rfl, Or.inl rfl⟩ rfl (fun h7 => ?_)
      refine am_aload_n dX2_init_60 rfl ?_
      refine am_bipush (v := 10) dX2_init_61 (by decide) ?_
      refine am_newI (N := 10) (rc' := 2) (rs' := 13) dX2_init_63 wd108 (by decide) (by decide) (by decide) (by omega) (by omega) (fun h8 => ?_)
      refine am_putR dX2_init_65 fk_RX2_31 ⟨_, rfl, Or.inr ⟨rfl, rfl, rfl⟩⟩ rfl (fun h9 => ?_)
      refine am_aload_n dX2_init_68 rfl ?_
      refine am_bipush (v := 10) dX2_init_69 (by decide) ?_
      refine am_newI (N := 10) (rc' := 1) (rs' := 3) dX2_init_71 wd108 (by decide) (by decide) (by decide) (by omega) (by omega) (fun h10 => ?_)
      refine am_putR dX2_init_73 fk_RX2_35 ⟨_, rfl, Or.inr ⟨rfl, rfl, rfl⟩⟩ rfl (fun h11 => ?_)
      refine am_aload_n dX2_init_76 rfl ?_
      refine am_iconst (v := 0) dX2_init_77 (by decide) ?_
      refine am_putI dX2_init_78 fk_RX2_38 ⟨_, rfl, Or.inl rfl⟩ rfl (fun h12 => ?_)
      refine am_aload_n dX2_init_81 rfl ?_
      refine am_iconst (v := 0) dX2_init_82 (by decide) ?_
      refine am_putI dX2_init_83 fk_RX2_41 ⟨_, rfl, Or.inl rfl⟩ rfl (fun h13 => ?_)
      refine am_aload_n dX2_init_86 rfl ?_
      refine am_iconst (v := 3) dX2_init_87 (by decide) ?_
      refine am_newI (N := 3) (rc' := 0) (rs' := 0) dX2_init_88 wd108 (by decide) (by decide) (by decide) (by omega) (by omega) (fun h14 => ?_)
      refine am_putR dX2_init_90 fk_RX2_44 ⟨_, rfl, Or.inr ⟨rfl, rfl, rfl⟩⟩ rfl (fun h15 => ?_)
      refine am_iconst (v := 0) dX2_init_93 (by decide) ?_
      refine am_istore_n (LL := fun y9 => [some (am_R l0), some (am_I y9)]) dX2_init_94 (by decide) (fun _ => rfl) (fun x16 => ?_)
      exact am_weak (sxX2_init_b95 am_F l0 x16 h15) ⟨rfl, ⟨rfl, trivial⟩⟩ (by first | omega | (unfold am_G; omega)) (by first | omega | (unfold am_G; omega))
    refine am_rcw (rc' := (4 + n * 1)) (rs' := (29 + n * 6)) ?_ (by omega) (by omega)
    refine am_aload_n dX2_init_21 rfl ?_
    refine am_getR dX2_init_22 fk_RX2_11 rfl ?_
    refine am_iload_n dX2_init_25 rfl ?_
    refine am_new (ci := 1) (rc' := (3 + n * 1)) (rs' := (23 + n * 6)) dX2_init_26 ⟨_, rfl, wd33, wd35, wd3⟩ (by omega) (by show _ + 6 ≤ _; omega) (fun h17 => ?_)
    refine am_dup dX2_init_29 ?_
    refine am_callI (cvj := am_cu) (mtj := mX1_init) (dj := 1) (nj := 0) (rcj := 0) (rsj := 0) (rc' := (3 + n * 1)) (rs' := (23 + n * 6)) (st' := fun _ => [am_R (some h.1), am_I l1, am_R (am_gr h l0 0)]) [] [am_R (some h.1), am_I l1, am_R (am_gr h l0 0)] dX2_init_30 okX1_init lk_RX2_17 (fun zA zH zE => txX1_init (some h.1) h17 zA zH zE) rfl (fun _ => rfl) (by decide) rfl (Nat.le_of_ble_eq_true rfl) (by omega) (by omega) (fun _ h18 => ?_)
    refine am_aast (t := 3) dX2_init_33 (by decide) (by decide) (fun h19 => ?_)
    refine am_iinc (v := 1) (LL := fun y9 => [some (am_R l0), some (am_I y9)]) dX2_init_34 (by decide) rfl (by decide) (fun _ => rfl) (fun x20 => ?_)
    refine am_goto (tgt := 15) dX2_init_37 (by decide) ?_
    exact am_weak (ih l0 x20 h19) ⟨rfl, ⟨rfl, trivial⟩⟩ (by first | omega | (unfold am_G; omega)) (by first | omega | (unfold am_G; omega))
def fxX2_init (l0 : Option Nat) (h : am_H) : Option (Unit × am_H) := am_gd l0.isSome (am_lt (am_nw h (.inl (3, 10))) (fun h1 => am_gd (am_ob h1 l0 2) (am_lt (am_sr h1 l0 0 (some h.1)) (fun h2 => am_lt (0 : Int32) (fun x3 => fxX2_init_b15 am_G l0 x3 h2)))))
set_option maxRecDepth 100000 in
theorem sxX2_init {xs : List Int32} (l0 : Option Nat) (h : am_H) : am_Sm xs am_cu mX2_init 2 24 153 0 [some (am_R l0), none] [] h (fxX2_init l0 h) := by
  unfold fxX2_init
  refine am_aload_n dX2_init_0 rfl ?_
  refine am_objInit dX2_init_1 wd32 wd25 wd26 (by decide) (Nat.le_of_ble_eq_true rfl) ?_
  refine am_aload_n dX2_init_4 rfl ?_
  refine am_bipush (v := 10) dX2_init_5 (by decide) ?_
  refine am_newR (t := 3) (N := 10) (rc' := 23) (rs' := 143) dX2_init_7 (by decide) (by decide) wd33 (by decide) (by decide) (by decide) (by omega) (by omega) (fun h1 => ?_)
  refine am_putR dX2_init_10 fk_RX2_11 ⟨_, rfl, Or.inr ⟨rfl, rfl, rfl⟩⟩ rfl (fun h2 => ?_)
  refine am_iconst (v := 0) dX2_init_13 (by decide) ?_
  refine am_istore_n (LL := fun y9 => [some (am_R l0), some (am_I y9)]) dX2_init_14 (by decide) (fun _ => rfl) (fun x3 => ?_)
  exact am_weak (sxX2_init_b15 am_G l0 x3 h2) ⟨rfl, ⟨rfl, trivial⟩⟩ (by first | omega | (unfold am_G; omega)) (by first | omega | (unfold am_G; omega))
theorem txX2_init {xs : List Int32} (l0 : Option Nat) (h : am_H) (a : Unit) (h2 : am_H) (e : fxX2_init l0 h = some (a, h2)) : am_Ct xs mX2_init 2 24 153 [am_R l0] h (fun v h3 => v = am_cu a ∧ h3 = h2) := am_meth okX2_init (Nat.le_of_ble_eq_true rfl) rfl (sxX2_init l0 h) e
theorem dX4_init_0 : am_at cX4_init 0 (.aload_n 0) 1 1 := by decide +kernel
theorem dX4_init_1 : am_at cX4_init 1 (.invokespecial 3) 3 4 := by decide +kernel
theorem dX4_init_4 : am_at cX4_init 4 (.aload_n 0) 1 5 := by decide +kernel
theorem dX4_init_5 : am_at cX4_init 5 (.sipush 600) 3 8 := by decide +kernel
theorem dX4_init_8 : am_at cX4_init 8 (.newarray .int) 2 10 := by decide +kernel
theorem dX4_init_10 : am_at cX4_init 10 (.putfield 9) 3 13 := by decide +kernel
theorem dX4_init_13 : am_at cX4_init 13 (.aload_n 0) 1 14 := by decide +kernel
theorem dX4_init_14 : am_at cX4_init 14 (.bipush 25) 2 16 := by decide +kernel
theorem dX4_init_16 : am_at cX4_init 16 (.newarray .int) 2 18 := by decide +kernel
theorem dX4_init_18 : am_at cX4_init 18 (.putfield 15) 3 21 := by decide +kernel
theorem dX4_init_21 : am_at cX4_init 21 (.aload_n 0) 1 22 := by decide +kernel
theorem dX4_init_22 : am_at cX4_init 22 (.iconst 0) 1 23 := by decide +kernel
theorem dX4_init_23 : am_at cX4_init 23 (.putfield 18) 3 26 := by decide +kernel
theorem dX4_init_26 : am_at cX4_init 26 (.iconst 0) 1 27 := by decide +kernel
theorem dX4_init_27 : am_at cX4_init 27 (.istore_n 1) 1 28 := by decide +kernel
theorem dX4_init_28 : am_at cX4_init 28 (.iload_n 1) 1 29 := by decide +kernel
theorem dX4_init_29 : am_at cX4_init 29 (.bipush 120) 2 31 := by decide +kernel
theorem dX4_init_31 : am_at cX4_init 31 (.if_icmp .ge 69) 3 34 := by decide +kernel
theorem dX4_init_34 : am_at cX4_init 34 (.iload_n 1) 1 35 := by decide +kernel
theorem dX4_init_35 : am_at cX4_init 35 (.istore_n 2) 1 36 := by decide +kernel
theorem dX4_init_36 : am_at cX4_init 36 (.iconst 0) 1 37 := by decide +kernel
theorem dX4_init_37 : am_at cX4_init 37 (.istore_n 3) 1 38 := by decide +kernel
theorem dX4_init_38 : am_at cX4_init 38 (.iconst 0) 1 39 := by decide +kernel
theorem dX4_init_39 : am_at cX4_init 39 (.istore 4) 2 41 := by decide +kernel
theorem dX4_init_41 : am_at cX4_init 41 (.iload 4) 2 43 := by decide +kernel
theorem dX4_init_43 : am_at cX4_init 43 (.iconst 5) 1 44 := by decide +kernel
theorem dX4_init_44 : am_at cX4_init 44 (.if_icmp .ge 50) 3 47 := by decide +kernel
theorem dX4_init_47 : am_at cX4_init 47 (.iconst 5) 1 48 := by decide +kernel
theorem dX4_init_48 : am_at cX4_init 48 (.iload 4) 2 50 := by decide +kernel
theorem dX4_init_50 : am_at cX4_init 50 (.isub) 1 51 := by decide +kernel
theorem dX4_init_51 : am_at cX4_init 51 (.istore 5) 2 53 := by decide +kernel
theorem dX4_init_53 : am_at cX4_init 53 (.iload_n 3) 1 54 := by decide +kernel
theorem dX4_init_54 : am_at cX4_init 54 (.iload_n 2) 1 55 := by decide +kernel
theorem dX4_init_55 : am_at cX4_init 55 (.iload 5) 2 57 := by decide +kernel
theorem dX4_init_57 : am_at cX4_init 57 (.irem) 1 58 := by decide +kernel
theorem dX4_init_58 : am_at cX4_init 58 (.invokestatic 22) 3 61 := by decide +kernel
theorem dX4_init_61 : am_at cX4_init 61 (.istore 6) 2 63 := by decide +kernel
theorem dX4_init_63 : am_at cX4_init 63 (.iload_n 2) 1 64 := by decide +kernel
theorem dX4_init_64 : am_at cX4_init 64 (.iload 5) 2 66 := by decide +kernel
theorem dX4_init_66 : am_at cX4_init 66 (.idiv) 1 67 := by decide +kernel
theorem dX4_init_67 : am_at cX4_init 67 (.istore_n 2) 1 68 := by decide +kernel
theorem dX4_init_68 : am_at cX4_init 68 (.iload_n 3) 1 69 := by decide +kernel
theorem dX4_init_69 : am_at cX4_init 69 (.iconst 1) 1 70 := by decide +kernel
theorem dX4_init_70 : am_at cX4_init 70 (.iload 6) 2 72 := by decide +kernel
theorem dX4_init_72 : am_at cX4_init 72 (.ishl) 1 73 := by decide +kernel
theorem dX4_init_73 : am_at cX4_init 73 (.ior) 1 74 := by decide +kernel
theorem dX4_init_74 : am_at cX4_init 74 (.istore_n 3) 1 75 := by decide +kernel
theorem dX4_init_75 : am_at cX4_init 75 (.aload_n 0) 1 76 := by decide +kernel
theorem dX4_init_76 : am_at cX4_init 76 (.getfield 9) 3 79 := by decide +kernel
theorem dX4_init_79 : am_at cX4_init 79 (.iload_n 1) 1 80 := by decide +kernel
theorem dX4_init_80 : am_at cX4_init 80 (.iconst 5) 1 81 := by decide +kernel
theorem dX4_init_81 : am_at cX4_init 81 (.imul) 1 82 := by decide +kernel
theorem dX4_init_82 : am_at cX4_init 82 (.iload 4) 2 84 := by decide +kernel
theorem dX4_init_84 : am_at cX4_init 84 (.iadd) 1 85 := by decide +kernel
theorem dX4_init_85 : am_at cX4_init 85 (.iload 6) 2 87 := by decide +kernel
theorem dX4_init_87 : am_at cX4_init 87 (.iastore) 1 88 := by decide +kernel
theorem dX4_init_88 : am_at cX4_init 88 (.iinc 4 1) 3 91 := by decide +kernel
theorem dX4_init_91 : am_at cX4_init 91 (.goto (-50)) 3 94 := by decide +kernel
theorem dX4_init_94 : am_at cX4_init 94 (.iinc 1 1) 3 97 := by decide +kernel
theorem dX4_init_97 : am_at cX4_init 97 (.goto (-69)) 3 100 := by decide +kernel
theorem dX4_init_100 : am_at cX4_init 100 (.return_) 1 101 := by decide +kernel
def fxX4_init_b41 (k28 : Option Nat → Int32 → am_H → Option (Unit × am_H)) : Nat → Option Nat → Int32 → Int32 → Int32 → Int32 → am_H → Option (Unit × am_H)
  | 0, _, _, _, _, _, _ => none
  | n + 1, l0, l1, l2, l3, l4, h => if (5 : Int32) ≤ l4 then (am_lt (l1 + 1) (fun x11 => k28 l0 x11 h)) else (am_lt ((5 : Int32) - l4) (fun x12 => am_gd (am_nz x12) (am_bd (fxX4_freeWord l3 (am_rem l2 x12) h) (fun r13 h14 => am_lt r13 (fun x15 => am_gd (am_nz x12) (am_lt (l2 / x12) (fun x16 => am_lt (l3 ||| ((1 : Int32) <<< (x15 &&& 31))) (fun x17 => am_gd (am_ob h14 l0 4) (am_gd (am_ix h14 (am_gr h14 l0 0) 0 ((l1 * (5 : Int32)) + l4)) (am_lt (am_si h14 (am_gr h14 l0 0) ((l1 * (5 : Int32)) + l4).toNatClampNeg x15) (fun h18 => am_lt (l4 + 1) (fun x19 => fxX4_init_b41 k28 n l0 l1 x16 x17 x19 h18))))))))))))
set_option maxRecDepth 100000 in
theorem sxX4_init_b41 {xs : List Int32} (k28 : Option Nat → Int32 → am_H → Option (Unit × am_H)) (hk28 : ∀ (l0 : Option Nat) (l1 : Int32) (h : am_H), am_Sm xs am_cu mX4_init 1 0 0 28 [some (am_R l0), some (am_I l1), none, none, none, none, none] [] h (k28 l0 l1 h)) : ∀ (n : Nat) (l0 : Option Nat) (l1 : Int32) (l2 : Int32) (l3 : Int32) (l4 : Int32) (h : am_H), am_Sm xs am_cu mX4_init 1 0 0 41 [some (am_R l0), some (am_I l1), some (am_I l2), some (am_I l3), some (am_I l4), none, none] [] h (fxX4_init_b41 k28 n l0 l1 l2 l3 l4 h) := by
  intro n
  induction n with
  | zero => intros; exact am_none
  | succ n ih =>
    intro l0 l1 l2 l3 l4 h
    rw [fxX4_init_b41]
    refine am_iload dX4_init_41 rfl ?_
    refine am_iconst (v := 5) dX4_init_43 (by decide) ?_
    refine am_icmp_ge (tgt := 94) dX4_init_44 (by decide) (fun c20 => ?_) (fun c20 => ?_)
    · refine am_rcw (rc' := 0) (rs' := 0) ?_ (by omega) (by omega)
      refine am_iinc (v := 1) (LL := fun y9 => [some (am_R l0), some (am_I y9), some (am_I l2), some (am_I l3), some (am_I l4), none, none]) dX4_init_94 (by decide) rfl (by decide) (fun _ => rfl) (fun x11 => ?_)
      refine am_goto (tgt := 28) dX4_init_97 (by decide) ?_
      exact am_weak (hk28 l0 x11 h) ⟨rfl, ⟨rfl, trivial⟩⟩ (by first | omega | (unfold am_G; omega)) (by first | omega | (unfold am_G; omega))
    refine am_rcw (rc' := 0) (rs' := 0) ?_ (by omega) (by omega)
    refine am_iconst (v := 5) dX4_init_47 (by decide) ?_
    refine am_iload dX4_init_48 rfl ?_
    refine am_isub dX4_init_50 ?_
    refine am_istore (LL := fun y9 => [some (am_R l0), some (am_I l1), some (am_I l2), some (am_I l3), some (am_I l4), some (am_I y9), none]) dX4_init_51 (by decide) (fun _ => rfl) (fun x12 => ?_)
    refine am_iload_n dX4_init_53 rfl ?_
    refine am_iload_n dX4_init_54 rfl ?_
    refine am_iload dX4_init_55 rfl ?_
    refine am_irem dX4_init_57 ?_
    refine am_callS (cvj := am_ci) (mtj := mX4_freeWord) (dj := 0) (nj := 2) (rcj := 0) (rsj := 0) (rc' := 0) (rs' := 0) (st' := fun a9 => (am_I a9 :: [])) [am_I l3, am_I (am_rem l2 x12)] [] dX4_init_58 okX4_freeWord lk_RX4_22 (fun zA zH zE => txX4_freeWord l3 (am_rem l2 x12) h zA zH zE) rfl (fun _ => rfl) (by decide) rfl (Nat.le_of_ble_eq_true rfl) (by omega) (by omega) (fun r13 h14 => ?_)
    refine am_istore (LL := fun y9 => [some (am_R l0), some (am_I l1), some (am_I l2), some (am_I l3), some (am_I l4), some (am_I x12), some (am_I y9)]) dX4_init_61 (by decide) (fun _ => rfl) (fun x15 => ?_)
    refine am_iload_n dX4_init_63 rfl ?_
    refine am_iload dX4_init_64 rfl ?_
    refine am_idiv dX4_init_66 ?_
    refine am_istore_n (LL := fun y9 => [some (am_R l0), some (am_I l1), some (am_I y9), some (am_I l3), some (am_I l4), some (am_I x12), some (am_I x15)]) dX4_init_67 (by decide) (fun _ => rfl) (fun x16 => ?_)
    refine am_iload_n dX4_init_68 rfl ?_
    refine am_iconst (v := 1) dX4_init_69 (by decide) ?_
    refine am_iload dX4_init_70 rfl ?_
    refine am_ishl dX4_init_72 ?_
    refine am_ior dX4_init_73 ?_
    refine am_istore_n (LL := fun y9 => [some (am_R l0), some (am_I l1), some (am_I x16), some (am_I y9), some (am_I l4), some (am_I x12), some (am_I x15)]) dX4_init_74 (by decide) (fun _ => rfl) (fun x17 => ?_)
    refine am_aload_n dX4_init_75 rfl ?_
    refine am_getR dX4_init_76 fk_RX4_9 rfl ?_
    refine am_iload_n dX4_init_79 rfl ?_
    refine am_iconst (v := 5) dX4_init_80 (by decide) ?_
    refine am_imul dX4_init_81 ?_
    refine am_iload dX4_init_82 rfl ?_
    refine am_iadd dX4_init_84 ?_
    refine am_iload dX4_init_85 rfl ?_
    refine am_iast dX4_init_87 (fun h18 => ?_)
    refine am_iinc (v := 1) (LL := fun y9 => [some (am_R l0), some (am_I l1), some (am_I x16), some (am_I x17), some (am_I y9), some (am_I x12), some (am_I x15)]) dX4_init_88 (by decide) rfl (by decide) (fun _ => rfl) (fun x19 => ?_)
    refine am_goto (tgt := 41) dX4_init_91 (by decide) ?_
    exact am_weak (ih l0 l1 x16 x17 x19 h18) ⟨rfl, ⟨rfl, ⟨rfl, ⟨rfl, ⟨rfl, trivial⟩⟩⟩⟩⟩ (by first | omega | (unfold am_G; omega)) (by first | omega | (unfold am_G; omega))
def fxX4_init_b28 : Nat → Option Nat → Int32 → am_H → Option (Unit × am_H)
  | 0, _, _, _ => none
  | n + 1, l0, l1, h => if (120 : Int32) ≤ l1 then (some ((), h)) else (am_lt l1 (fun x7 => am_lt (0 : Int32) (fun x8 => am_lt (0 : Int32) (fun x9 => fxX4_init_b41 (fxX4_init_b28 n) am_F l0 l1 x7 x8 x9 h))))
set_option maxRecDepth 100000 in
theorem sxX4_init_b28 {xs : List Int32} : ∀ (n : Nat) (l0 : Option Nat) (l1 : Int32) (h : am_H), am_Sm xs am_cu mX4_init 1 0 0 28 [some (am_R l0), some (am_I l1), none, none, none, none, none] [] h (fxX4_init_b28 n l0 l1 h) := by
  intro n
  induction n with
  | zero => intros; exact am_none
  | succ n ih =>
    intro l0 l1 h
    rw [fxX4_init_b28]
    refine am_iload_n dX4_init_28 rfl ?_
    refine am_bipush (v := 120) dX4_init_29 (by decide) ?_
    refine am_icmp_ge (tgt := 100) dX4_init_31 (by decide) (fun c10 => ?_) (fun c10 => ?_)
    · refine am_rcw (rc' := 0) (rs' := 0) ?_ (by omega) (by omega)
      exact am_vret dX4_init_100 rfl rfl
    refine am_rcw (rc' := 0) (rs' := 0) ?_ (by omega) (by omega)
    refine am_iload_n dX4_init_34 rfl ?_
    refine am_istore_n (LL := fun y9 => [some (am_R l0), some (am_I l1), some (am_I y9), none, none, none, none]) dX4_init_35 (by decide) (fun _ => rfl) (fun x7 => ?_)
    refine am_iconst (v := 0) dX4_init_36 (by decide) ?_
    refine am_istore_n (LL := fun y9 => [some (am_R l0), some (am_I l1), some (am_I x7), some (am_I y9), none, none, none]) dX4_init_37 (by decide) (fun _ => rfl) (fun x8 => ?_)
    refine am_iconst (v := 0) dX4_init_38 (by decide) ?_
    refine am_istore (LL := fun y9 => [some (am_R l0), some (am_I l1), some (am_I x7), some (am_I x8), some (am_I y9), none, none]) dX4_init_39 (by decide) (fun _ => rfl) (fun x9 => ?_)
    exact am_weak (sxX4_init_b41 (fxX4_init_b28 n) ih am_F l0 l1 x7 x8 x9 h) ⟨rfl, ⟨rfl, ⟨rfl, ⟨rfl, ⟨rfl, trivial⟩⟩⟩⟩⟩ (by first | omega | (unfold am_G; omega)) (by first | omega | (unfold am_G; omega))
def fxX4_init (l0 : Option Nat) (h : am_H) : Option (Unit × am_H) := am_gd l0.isSome (am_lt (am_nw h (.inl (0, 600))) (fun h1 => am_gd (am_ob h1 l0 4) (am_lt (am_sr h1 l0 0 (some h.1)) (fun h2 => am_lt (am_nw h2 (.inl (0, 25))) (fun h3 => am_gd (am_ob h3 l0 4) (am_lt (am_sr h3 l0 1 (some h2.1)) (fun h4 => am_gd (am_ob h4 l0 4) (am_lt (am_si h4 l0 2 (0 : Int32)) (fun h5 => am_lt (0 : Int32) (fun x6 => fxX4_init_b28 am_F l0 x6 h5))))))))))
set_option maxRecDepth 100000 in
theorem sxX4_init {xs : List Int32} (l0 : Option Nat) (h : am_H) : am_Sm xs am_cu mX4_init 1 2 625 0 [some (am_R l0), none, none, none, none, none, none] [] h (fxX4_init l0 h) := by
  unfold fxX4_init
  refine am_aload_n dX4_init_0 rfl ?_
  refine am_objInit dX4_init_1 wd205 wd25 wd26 (by decide) (Nat.le_of_ble_eq_true rfl) ?_
  refine am_aload_n dX4_init_4 rfl ?_
  refine am_sipush (v := 600) dX4_init_5 (by decide) ?_
  refine am_newI (N := 600) (rc' := 1) (rs' := 25) dX4_init_8 wd108 (by decide) (by decide) (by decide) (by omega) (by omega) (fun h1 => ?_)
  refine am_putR dX4_init_10 fk_RX4_9 ⟨_, rfl, Or.inr ⟨rfl, rfl, rfl⟩⟩ rfl (fun h2 => ?_)
  refine am_aload_n dX4_init_13 rfl ?_
  refine am_bipush (v := 25) dX4_init_14 (by decide) ?_
  refine am_newI (N := 25) (rc' := 0) (rs' := 0) dX4_init_16 wd108 (by decide) (by decide) (by decide) (by omega) (by omega) (fun h3 => ?_)
  refine am_putR dX4_init_18 fk_RX4_15 ⟨_, rfl, Or.inr ⟨rfl, rfl, rfl⟩⟩ rfl (fun h4 => ?_)
  refine am_aload_n dX4_init_21 rfl ?_
  refine am_iconst (v := 0) dX4_init_22 (by decide) ?_
  refine am_putI dX4_init_23 fk_RX4_18 ⟨_, rfl, Or.inl rfl⟩ rfl (fun h5 => ?_)
  refine am_iconst (v := 0) dX4_init_26 (by decide) ?_
  refine am_istore_n (LL := fun y9 => [some (am_R l0), some (am_I y9), none, none, none, none, none]) dX4_init_27 (by decide) (fun _ => rfl) (fun x6 => ?_)
  exact am_weak (sxX4_init_b28 am_F l0 x6 h5) ⟨rfl, ⟨rfl, trivial⟩⟩ (by first | omega | (unfold am_G; omega)) (by first | omega | (unfold am_G; omega))
theorem txX4_init {xs : List Int32} (l0 : Option Nat) (h : am_H) (a : Unit) (h2 : am_H) (e : fxX4_init l0 h = some (a, h2)) : am_Ct xs mX4_init 1 2 625 [am_R l0] h (fun v h3 => v = am_cu a ∧ h3 = h2) := am_meth okX4_init (Nat.le_of_ble_eq_true rfl) rfl (sxX4_init l0 h) e
theorem dX5_init_0 : am_at cX5_init 0 (.aload_n 0) 1 1 := by decide +kernel
theorem dX5_init_1 : am_at cX5_init 1 (.invokespecial 3) 3 4 := by decide +kernel
theorem dX5_init_4 : am_at cX5_init 4 (.aload_n 0) 1 5 := by decide +kernel
theorem dX5_init_5 : am_at cX5_init 5 (.iconst (-1)) 1 6 := by decide +kernel
theorem dX5_init_6 : am_at cX5_init 6 (.putfield 9) 3 9 := by decide +kernel
theorem dX5_init_9 : am_at cX5_init 9 (.aload_n 0) 1 10 := by decide +kernel
theorem dX5_init_10 : am_at cX5_init 10 (.iconst 0) 1 11 := by decide +kernel
theorem dX5_init_11 : am_at cX5_init 11 (.putfield 15) 3 14 := by decide +kernel
theorem dX5_init_14 : am_at cX5_init 14 (.aload_n 0) 1 15 := by decide +kernel
theorem dX5_init_15 : am_at cX5_init 15 (.bipush 24) 2 17 := by decide +kernel
theorem dX5_init_17 : am_at cX5_init 17 (.newarray .int) 2 19 := by decide +kernel
theorem dX5_init_19 : am_at cX5_init 19 (.putfield 18) 3 22 := by decide +kernel
theorem dX5_init_22 : am_at cX5_init 22 (.return_) 1 23 := by decide +kernel
def fxX5_init (l0 : Option Nat) (h : am_H) : Option (Unit × am_H) := am_gd l0.isSome (am_gd (am_ob h l0 5) (am_lt (am_si h l0 0 (-1 : Int32)) (fun h1 => am_gd (am_ob h1 l0 5) (am_lt (am_si h1 l0 1 (0 : Int32)) (fun h2 => am_lt (am_nw h2 (.inl (0, 24))) (fun h3 => am_gd (am_ob h3 l0 5) (am_lt (am_sr h3 l0 2 (some h2.1)) (fun h4 => some ((), h4)))))))))
set_option maxRecDepth 100000 in
theorem sxX5_init {xs : List Int32} (l0 : Option Nat) (h : am_H) : am_Sm xs am_cu mX5_init 1 1 24 0 [some (am_R l0)] [] h (fxX5_init l0 h) := by
  unfold fxX5_init
  refine am_aload_n dX5_init_0 rfl ?_
  refine am_objInit dX5_init_1 wd226 wd25 wd26 (by decide) (Nat.le_of_ble_eq_true rfl) ?_
  refine am_aload_n dX5_init_4 rfl ?_
  refine am_iconst (v := (-1)) dX5_init_5 (by decide) ?_
  refine am_putI dX5_init_6 fk_RX5_9 ⟨_, rfl, Or.inl rfl⟩ rfl (fun h1 => ?_)
  refine am_aload_n dX5_init_9 rfl ?_
  refine am_iconst (v := 0) dX5_init_10 (by decide) ?_
  refine am_putI dX5_init_11 fk_RX5_15 ⟨_, rfl, Or.inl rfl⟩ rfl (fun h2 => ?_)
  refine am_aload_n dX5_init_14 rfl ?_
  refine am_bipush (v := 24) dX5_init_15 (by decide) ?_
  refine am_newI (N := 24) (rc' := 0) (rs' := 0) dX5_init_17 wd108 (by decide) (by decide) (by decide) (by omega) (by omega) (fun h3 => ?_)
  refine am_putR dX5_init_19 fk_RX5_18 ⟨_, rfl, Or.inr ⟨rfl, rfl, rfl⟩⟩ rfl (fun h4 => ?_)
  exact am_vret dX5_init_22 rfl rfl
theorem txX5_init {xs : List Int32} (l0 : Option Nat) (h : am_H) (a : Unit) (h2 : am_H) (e : fxX5_init l0 h = some (a, h2)) : am_Ct xs mX5_init 1 1 24 [am_R l0] h (fun v h3 => v = am_cu a ∧ h3 = h2) := am_meth okX5_init (Nat.le_of_ble_eq_true rfl) rfl (sxX5_init l0 h) e
theorem dX6_init_0 : am_at cX6_init 0 (.aload_n 0) 1 1 := by decide +kernel
theorem dX6_init_1 : am_at cX6_init 1 (.invokespecial 3) 3 4 := by decide +kernel
theorem dX6_init_4 : am_at cX6_init 4 (.aload_n 0) 1 5 := by decide +kernel
theorem dX6_init_5 : am_at cX6_init 5 (.iconst 0) 1 6 := by decide +kernel
theorem dX6_init_6 : am_at cX6_init 6 (.putfield 9) 3 9 := by decide +kernel
theorem dX6_init_9 : am_at cX6_init 9 (.aload_n 0) 1 10 := by decide +kernel
theorem dX6_init_10 : am_at cX6_init 10 (.new 15) 3 13 := by decide +kernel
theorem dX6_init_13 : am_at cX6_init 13 (.dup) 1 14 := by decide +kernel
theorem dX6_init_14 : am_at cX6_init 14 (.invokespecial 17) 3 17 := by decide +kernel
theorem dX6_init_17 : am_at cX6_init 17 (.putfield 18) 3 20 := by decide +kernel
theorem dX6_init_20 : am_at cX6_init 20 (.aload_n 0) 1 21 := by decide +kernel
theorem dX6_init_21 : am_at cX6_init 21 (.new 22) 3 24 := by decide +kernel
theorem dX6_init_24 : am_at cX6_init 24 (.dup) 1 25 := by decide +kernel
theorem dX6_init_25 : am_at cX6_init 25 (.invokespecial 24) 3 28 := by decide +kernel
theorem dX6_init_28 : am_at cX6_init 28 (.putfield 25) 3 31 := by decide +kernel
theorem dX6_init_31 : am_at cX6_init 31 (.aload_n 0) 1 32 := by decide +kernel
theorem dX6_init_32 : am_at cX6_init 32 (.iconst 0) 1 33 := by decide +kernel
theorem dX6_init_33 : am_at cX6_init 33 (.putfield 29) 3 36 := by decide +kernel
theorem dX6_init_36 : am_at cX6_init 36 (.return_) 1 37 := by decide +kernel
def fxX6_init (l0 : Option Nat) (h : am_H) : Option (Unit × am_H) := am_gd l0.isSome (am_gd (am_ob h l0 6) (am_lt (am_si h l0 0 (0 : Int32)) (fun h1 => am_lt (am_nw h1 (.inr 1)) (fun h2 => am_gd (some h1.1).isSome (am_bd (fxX1_init (some h1.1) h2) (fun _ h3 => am_gd (am_ob h3 l0 6) (am_lt (am_sr h3 l0 1 (some h1.1)) (fun h4 => am_lt (am_nw h4 (.inr 5)) (fun h5 => am_gd (some h4.1).isSome (am_bd (fxX5_init (some h4.1) h5) (fun _ h6 => am_gd (am_ob h6 l0 6) (am_lt (am_sr h6 l0 2 (some h4.1)) (fun h7 => am_gd (am_ob h7 l0 6) (am_lt (am_si h7 l0 3 (0 : Int32)) (fun h8 => some ((), h8))))))))))))))))
set_option maxRecDepth 100000 in
theorem sxX6_init {xs : List Int32} (l0 : Option Nat) (h : am_H) : am_Sm xs am_cu mX6_init 2 3 33 0 [some (am_R l0)] [] h (fxX6_init l0 h) := by
  unfold fxX6_init
  refine am_aload_n dX6_init_0 rfl ?_
  refine am_objInit dX6_init_1 wd247 wd25 wd26 (by decide) (Nat.le_of_ble_eq_true rfl) ?_
  refine am_aload_n dX6_init_4 rfl ?_
  refine am_iconst (v := 0) dX6_init_5 (by decide) ?_
  refine am_putI dX6_init_6 fk_RX6_9 ⟨_, rfl, Or.inl rfl⟩ rfl (fun h1 => ?_)
  refine am_aload_n dX6_init_9 rfl ?_
  refine am_new (ci := 1) (rc' := 2) (rs' := 27) dX6_init_10 ⟨_, rfl, wd248, wd35, wd3⟩ (by omega) (by show _ + 6 ≤ _; omega) (fun h2 => ?_)
  refine am_dup dX6_init_13 ?_
  refine am_callI (cvj := am_cu) (mtj := mX1_init) (dj := 1) (nj := 0) (rcj := 0) (rsj := 0) (rc' := 2) (rs' := 27) (st' := fun _ => [am_R (some h1.1), am_R l0]) [] [am_R (some h1.1), am_R l0] dX6_init_14 okX1_init lk_RX6_17 (fun zA zH zE => txX1_init (some h1.1) h2 zA zH zE) rfl (fun _ => rfl) (by decide) rfl (Nat.le_of_ble_eq_true rfl) (by omega) (by omega) (fun _ h3 => ?_)
  refine am_putR dX6_init_17 fk_RX6_18 ⟨_, rfl, Or.inr ⟨rfl, rfl, rfl⟩⟩ rfl (fun h4 => ?_)
  refine am_aload_n dX6_init_20 rfl ?_
  refine am_new (ci := 5) (rc' := 1) (rs' := 24) dX6_init_21 ⟨_, rfl, wd250, wd222, wd9⟩ (by omega) (by show _ + 3 ≤ _; omega) (fun h5 => ?_)
  refine am_dup dX6_init_24 ?_
  refine am_callI (cvj := am_cu) (mtj := mX5_init) (dj := 1) (nj := 0) (rcj := 1) (rsj := 24) (rc' := 0) (rs' := 0) (st' := fun _ => [am_R (some h4.1), am_R l0]) [] [am_R (some h4.1), am_R l0] dX6_init_25 okX5_init lk_RX6_24 (fun zA zH zE => txX5_init (some h4.1) h5 zA zH zE) rfl (fun _ => rfl) (by decide) rfl (Nat.le_of_ble_eq_true rfl) (by omega) (by omega) (fun _ h6 => ?_)
  refine am_putR dX6_init_28 fk_RX6_25 ⟨_, rfl, Or.inr ⟨rfl, rfl, rfl⟩⟩ rfl (fun h7 => ?_)
  refine am_aload_n dX6_init_31 rfl ?_
  refine am_iconst (v := 0) dX6_init_32 (by decide) ?_
  refine am_putI dX6_init_33 fk_RX6_29 ⟨_, rfl, Or.inl rfl⟩ rfl (fun h8 => ?_)
  exact am_vret dX6_init_36 rfl rfl
theorem txX6_init {xs : List Int32} (l0 : Option Nat) (h : am_H) (a : Unit) (h2 : am_H) (e : fxX6_init l0 h = some (a, h2)) : am_Ct xs mX6_init 2 3 33 [am_R l0] h (fun v h3 => v = am_cu a ∧ h3 = h2) := am_meth okX6_init (Nat.le_of_ble_eq_true rfl) rfl (sxX6_init l0 h) e
theorem dX7_init_0 : am_at cX7_init 0 (.aload_n 0) 1 1 := by decide +kernel
theorem dX7_init_1 : am_at cX7_init 1 (.invokespecial 3) 3 4 := by decide +kernel
theorem dX7_init_4 : am_at cX7_init 4 (.aload_n 0) 1 5 := by decide +kernel
theorem dX7_init_5 : am_at cX7_init 5 (.bipush 100) 2 7 := by decide +kernel
theorem dX7_init_7 : am_at cX7_init 7 (.newarray .int) 2 9 := by decide +kernel
theorem dX7_init_9 : am_at cX7_init 9 (.putfield 9) 3 12 := by decide +kernel
theorem dX7_init_12 : am_at cX7_init 12 (.aload_n 0) 1 13 := by decide +kernel
theorem dX7_init_13 : am_at cX7_init 13 (.sipush 1024) 3 16 := by decide +kernel
theorem dX7_init_16 : am_at cX7_init 16 (.newarray .int) 2 18 := by decide +kernel
theorem dX7_init_18 : am_at cX7_init 18 (.putfield 15) 3 21 := by decide +kernel
theorem dX7_init_21 : am_at cX7_init 21 (.aload_n 0) 1 22 := by decide +kernel
theorem dX7_init_22 : am_at cX7_init 22 (.bipush 10) 2 24 := by decide +kernel
theorem dX7_init_24 : am_at cX7_init 24 (.newarray .int) 2 26 := by decide +kernel
theorem dX7_init_26 : am_at cX7_init 26 (.putfield 18) 3 29 := by decide +kernel
theorem dX7_init_29 : am_at cX7_init 29 (.aload_n 0) 1 30 := by decide +kernel
theorem dX7_init_30 : am_at cX7_init 30 (.iconst 0) 1 31 := by decide +kernel
theorem dX7_init_31 : am_at cX7_init 31 (.putfield 21) 3 34 := by decide +kernel
theorem dX7_init_34 : am_at cX7_init 34 (.return_) 1 35 := by decide +kernel
def fxX7_init (l0 : Option Nat) (h : am_H) : Option (Unit × am_H) := am_gd l0.isSome (am_lt (am_nw h (.inl (0, 100))) (fun h1 => am_gd (am_ob h1 l0 7) (am_lt (am_sr h1 l0 0 (some h.1)) (fun h2 => am_lt (am_nw h2 (.inl (0, 1024))) (fun h3 => am_gd (am_ob h3 l0 7) (am_lt (am_sr h3 l0 1 (some h2.1)) (fun h4 => am_lt (am_nw h4 (.inl (0, 10))) (fun h5 => am_gd (am_ob h5 l0 7) (am_lt (am_sr h5 l0 2 (some h4.1)) (fun h6 => am_gd (am_ob h6 l0 7) (am_lt (am_si h6 l0 3 (0 : Int32)) (fun h7 => some ((), h7)))))))))))))
set_option maxRecDepth 100000 in
theorem sxX7_init {xs : List Int32} (l0 : Option Nat) (h : am_H) : am_Sm xs am_cu mX7_init 1 3 1134 0 [some (am_R l0)] [] h (fxX7_init l0 h) := by
  unfold fxX7_init
  refine am_aload_n dX7_init_0 rfl ?_
  refine am_objInit dX7_init_1 wd186 wd25 wd26 (by decide) (Nat.le_of_ble_eq_true rfl) ?_
  refine am_aload_n dX7_init_4 rfl ?_
  refine am_bipush (v := 100) dX7_init_5 (by decide) ?_
  refine am_newI (N := 100) (rc' := 2) (rs' := 1034) dX7_init_7 wd108 (by decide) (by decide) (by decide) (by omega) (by omega) (fun h1 => ?_)
  refine am_putR dX7_init_9 fk_RX7_9 ⟨_, rfl, Or.inr ⟨rfl, rfl, rfl⟩⟩ rfl (fun h2 => ?_)
  refine am_aload_n dX7_init_12 rfl ?_
  refine am_sipush (v := 1024) dX7_init_13 (by decide) ?_
  refine am_newI (N := 1024) (rc' := 1) (rs' := 10) dX7_init_16 wd108 (by decide) (by decide) (by decide) (by omega) (by omega) (fun h3 => ?_)
  refine am_putR dX7_init_18 fk_RX7_15 ⟨_, rfl, Or.inr ⟨rfl, rfl, rfl⟩⟩ rfl (fun h4 => ?_)
  refine am_aload_n dX7_init_21 rfl ?_
  refine am_bipush (v := 10) dX7_init_22 (by decide) ?_
  refine am_newI (N := 10) (rc' := 0) (rs' := 0) dX7_init_24 wd108 (by decide) (by decide) (by decide) (by omega) (by omega) (fun h5 => ?_)
  refine am_putR dX7_init_26 fk_RX7_18 ⟨_, rfl, Or.inr ⟨rfl, rfl, rfl⟩⟩ rfl (fun h6 => ?_)
  refine am_aload_n dX7_init_29 rfl ?_
  refine am_iconst (v := 0) dX7_init_30 (by decide) ?_
  refine am_putI dX7_init_31 fk_RX7_21 ⟨_, rfl, Or.inl rfl⟩ rfl (fun h7 => ?_)
  exact am_vret dX7_init_34 rfl rfl
theorem txX7_init {xs : List Int32} (l0 : Option Nat) (h : am_H) (a : Unit) (h2 : am_H) (e : fxX7_init l0 h = some (a, h2)) : am_Ct xs mX7_init 1 3 1134 [am_R l0] h (fun v h3 => v = am_cu a ∧ h3 = h2) := am_meth okX7_init (Nat.le_of_ble_eq_true rfl) rfl (sxX7_init l0 h) e
theorem dX8_init_0 : am_at cX8_init 0 (.aload_n 0) 1 1 := by decide +kernel
theorem dX8_init_1 : am_at cX8_init 1 (.invokespecial 3) 3 4 := by decide +kernel
theorem dX8_init_4 : am_at cX8_init 4 (.aload_n 0) 1 5 := by decide +kernel
theorem dX8_init_5 : am_at cX8_init 5 (.bipush 96) 2 7 := by decide +kernel
theorem dX8_init_7 : am_at cX8_init 7 (.newarray .int) 2 9 := by decide +kernel
theorem dX8_init_9 : am_at cX8_init 9 (.putfield 9) 3 12 := by decide +kernel
theorem dX8_init_12 : am_at cX8_init 12 (.aload_n 0) 1 13 := by decide +kernel
theorem dX8_init_13 : am_at cX8_init 13 (.iconst 0) 1 14 := by decide +kernel
theorem dX8_init_14 : am_at cX8_init 14 (.putfield 15) 3 17 := by decide +kernel
theorem dX8_init_17 : am_at cX8_init 17 (.aload_n 0) 1 18 := by decide +kernel
theorem dX8_init_18 : am_at cX8_init 18 (.new 19) 3 21 := by decide +kernel
theorem dX8_init_21 : am_at cX8_init 21 (.dup) 1 22 := by decide +kernel
theorem dX8_init_22 : am_at cX8_init 22 (.invokespecial 21) 3 25 := by decide +kernel
theorem dX8_init_25 : am_at cX8_init 25 (.putfield 22) 3 28 := by decide +kernel
theorem dX8_init_28 : am_at cX8_init 28 (.aload_n 0) 1 29 := by decide +kernel
theorem dX8_init_29 : am_at cX8_init 29 (.iconst (-1)) 1 30 := by decide +kernel
theorem dX8_init_30 : am_at cX8_init 30 (.putfield 26) 3 33 := by decide +kernel
theorem dX8_init_33 : am_at cX8_init 33 (.aload_n 0) 1 34 := by decide +kernel
theorem dX8_init_34 : am_at cX8_init 34 (.iconst 0) 1 35 := by decide +kernel
theorem dX8_init_35 : am_at cX8_init 35 (.putfield 29) 3 38 := by decide +kernel
theorem dX8_init_38 : am_at cX8_init 38 (.aload_n 0) 1 39 := by decide +kernel
theorem dX8_init_39 : am_at cX8_init 39 (.iconst 0) 1 40 := by decide +kernel
theorem dX8_init_40 : am_at cX8_init 40 (.putfield 32) 3 43 := by decide +kernel
theorem dX8_init_43 : am_at cX8_init 43 (.aload_n 0) 1 44 := by decide +kernel
theorem dX8_init_44 : am_at cX8_init 44 (.iconst 0) 1 45 := by decide +kernel
theorem dX8_init_45 : am_at cX8_init 45 (.putfield 35) 3 48 := by decide +kernel
theorem dX8_init_48 : am_at cX8_init 48 (.return_) 1 49 := by decide +kernel
def fxX8_init (l0 : Option Nat) (h : am_H) : Option (Unit × am_H) := am_gd l0.isSome (am_lt (am_nw h (.inl (0, 96))) (fun h1 => am_gd (am_ob h1 l0 8) (am_lt (am_sr h1 l0 0 (some h.1)) (fun h2 => am_gd (am_ob h2 l0 8) (am_lt (am_si h2 l0 1 (0 : Int32)) (fun h3 => am_lt (am_nw h3 (.inr 3)) (fun h4 => am_gd (some h3.1).isSome (am_bd (fxX3_init (some h3.1) h4) (fun _ h5 => am_gd (am_ob h5 l0 8) (am_lt (am_sr h5 l0 2 (some h3.1)) (fun h6 => am_gd (am_ob h6 l0 8) (am_lt (am_si h6 l0 3 (-1 : Int32)) (fun h7 => am_gd (am_ob h7 l0 8) (am_lt (am_si h7 l0 4 (0 : Int32)) (fun h8 => am_gd (am_ob h8 l0 8) (am_lt (am_si h8 l0 5 (0 : Int32)) (fun h9 => am_gd (am_ob h9 l0 8) (am_lt (am_si h9 l0 6 (0 : Int32)) (fun h10 => some ((), h10))))))))))))))))))))
set_option maxRecDepth 100000 in
theorem sxX8_init {xs : List Int32} (l0 : Option Nat) (h : am_H) : am_Sm xs am_cu mX8_init 2 3 196 0 [some (am_R l0)] [] h (fxX8_init l0 h) := by
  unfold fxX8_init
  refine am_aload_n dX8_init_0 rfl ?_
  refine am_objInit dX8_init_1 wd155 wd25 wd26 (by decide) (Nat.le_of_ble_eq_true rfl) ?_
  refine am_aload_n dX8_init_4 rfl ?_
  refine am_bipush (v := 96) dX8_init_5 (by decide) ?_
  refine am_newI (N := 96) (rc' := 2) (rs' := 100) dX8_init_7 wd108 (by decide) (by decide) (by decide) (by omega) (by omega) (fun h1 => ?_)
  refine am_putR dX8_init_9 fk_RX8_9 ⟨_, rfl, Or.inr ⟨rfl, rfl, rfl⟩⟩ rfl (fun h2 => ?_)
  refine am_aload_n dX8_init_12 rfl ?_
  refine am_iconst (v := 0) dX8_init_13 (by decide) ?_
  refine am_putI dX8_init_14 fk_RX8_15 ⟨_, rfl, Or.inl rfl⟩ rfl (fun h3 => ?_)
  refine am_aload_n dX8_init_17 rfl ?_
  refine am_new (ci := 3) (rc' := 1) (rs' := 96) dX8_init_18 ⟨_, rfl, wd156, wd117, wd5⟩ (by omega) (by show _ + 4 ≤ _; omega) (fun h4 => ?_)
  refine am_dup dX8_init_21 ?_
  refine am_callI (cvj := am_cu) (mtj := mX3_init) (dj := 1) (nj := 0) (rcj := 1) (rsj := 96) (rc' := 0) (rs' := 0) (st' := fun _ => [am_R (some h3.1), am_R l0]) [] [am_R (some h3.1), am_R l0] dX8_init_22 okX3_init lk_RX8_21 (fun zA zH zE => txX3_init (some h3.1) h4 zA zH zE) rfl (fun _ => rfl) (by decide) rfl (Nat.le_of_ble_eq_true rfl) (by omega) (by omega) (fun _ h5 => ?_)
  refine am_putR dX8_init_25 fk_RX8_22 ⟨_, rfl, Or.inl rfl⟩ rfl (fun h6 => ?_)
  refine am_aload_n dX8_init_28 rfl ?_
  refine am_iconst (v := (-1)) dX8_init_29 (by decide) ?_
  refine am_putI dX8_init_30 fk_RX8_26 ⟨_, rfl, Or.inl rfl⟩ rfl (fun h7 => ?_)
  refine am_aload_n dX8_init_33 rfl ?_
  refine am_iconst (v := 0) dX8_init_34 (by decide) ?_
  refine am_putI dX8_init_35 fk_RX8_29 ⟨_, rfl, Or.inl rfl⟩ rfl (fun h8 => ?_)
  refine am_aload_n dX8_init_38 rfl ?_
  refine am_iconst (v := 0) dX8_init_39 (by decide) ?_
  refine am_putI dX8_init_40 fk_RX8_32 ⟨_, rfl, Or.inl rfl⟩ rfl (fun h9 => ?_)
  refine am_aload_n dX8_init_43 rfl ?_
  refine am_iconst (v := 0) dX8_init_44 (by decide) ?_
  refine am_putI dX8_init_45 fk_RX8_35 ⟨_, rfl, Or.inl rfl⟩ rfl (fun h10 => ?_)
  exact am_vret dX8_init_48 rfl rfl
theorem txX8_init {xs : List Int32} (l0 : Option Nat) (h : am_H) (a : Unit) (h2 : am_H) (e : fxX8_init l0 h = some (a, h2)) : am_Ct xs mX8_init 2 3 196 [am_R l0] h (fun v h3 => v = am_cu a ∧ h3 = h2) := am_meth okX8_init (Nat.le_of_ble_eq_true rfl) rfl (sxX8_init l0 h) e
theorem dX9_init_0 : am_at cX9_init 0 (.aload_n 0) 1 1 := by decide +kernel
theorem dX9_init_1 : am_at cX9_init 1 (.invokespecial 1) 3 4 := by decide +kernel
theorem dX9_init_4 : am_at cX9_init 4 (.aload_n 0) 1 5 := by decide +kernel
theorem dX9_init_5 : am_at cX9_init 5 (.new 7) 3 8 := by decide +kernel
theorem dX9_init_8 : am_at cX9_init 8 (.dup) 1 9 := by decide +kernel
theorem dX9_init_9 : am_at cX9_init 9 (.invokespecial 9) 3 12 := by decide +kernel
theorem dX9_init_12 : am_at cX9_init 12 (.putfield 10) 3 15 := by decide +kernel
theorem dX9_init_15 : am_at cX9_init 15 (.aload_n 0) 1 16 := by decide +kernel
theorem dX9_init_16 : am_at cX9_init 16 (.new 7) 3 19 := by decide +kernel
theorem dX9_init_19 : am_at cX9_init 19 (.dup) 1 20 := by decide +kernel
theorem dX9_init_20 : am_at cX9_init 20 (.invokespecial 9) 3 23 := by decide +kernel
theorem dX9_init_23 : am_at cX9_init 23 (.putfield 16) 3 26 := by decide +kernel
theorem dX9_init_26 : am_at cX9_init 26 (.aload_n 0) 1 27 := by decide +kernel
theorem dX9_init_27 : am_at cX9_init 27 (.new 7) 3 30 := by decide +kernel
theorem dX9_init_30 : am_at cX9_init 30 (.dup) 1 31 := by decide +kernel
theorem dX9_init_31 : am_at cX9_init 31 (.invokespecial 9) 3 34 := by decide +kernel
theorem dX9_init_34 : am_at cX9_init 34 (.putfield 19) 3 37 := by decide +kernel
theorem dX9_init_37 : am_at cX9_init 37 (.aload_n 0) 1 38 := by decide +kernel
theorem dX9_init_38 : am_at cX9_init 38 (.iconst 0) 1 39 := by decide +kernel
theorem dX9_init_39 : am_at cX9_init 39 (.putfield 22) 3 42 := by decide +kernel
theorem dX9_init_42 : am_at cX9_init 42 (.aload_n 0) 1 43 := by decide +kernel
theorem dX9_init_43 : am_at cX9_init 43 (.new 26) 3 46 := by decide +kernel
theorem dX9_init_46 : am_at cX9_init 46 (.dup) 1 47 := by decide +kernel
theorem dX9_init_47 : am_at cX9_init 47 (.invokespecial 28) 3 50 := by decide +kernel
theorem dX9_init_50 : am_at cX9_init 50 (.putfield 29) 3 53 := by decide +kernel
theorem dX9_init_53 : am_at cX9_init 53 (.aload_n 0) 1 54 := by decide +kernel
theorem dX9_init_54 : am_at cX9_init 54 (.new 33) 3 57 := by decide +kernel
theorem dX9_init_57 : am_at cX9_init 57 (.dup) 1 58 := by decide +kernel
theorem dX9_init_58 : am_at cX9_init 58 (.invokespecial 35) 3 61 := by decide +kernel
theorem dX9_init_61 : am_at cX9_init 61 (.putfield 36) 3 64 := by decide +kernel
theorem dX9_init_64 : am_at cX9_init 64 (.aload_n 0) 1 65 := by decide +kernel
theorem dX9_init_65 : am_at cX9_init 65 (.new 40) 3 68 := by decide +kernel
theorem dX9_init_68 : am_at cX9_init 68 (.dup) 1 69 := by decide +kernel
theorem dX9_init_69 : am_at cX9_init 69 (.invokespecial 42) 3 72 := by decide +kernel
theorem dX9_init_72 : am_at cX9_init 72 (.putfield 43) 3 75 := by decide +kernel
theorem dX9_init_75 : am_at cX9_init 75 (.aload_n 0) 1 76 := by decide +kernel
theorem dX9_init_76 : am_at cX9_init 76 (.new 47) 3 79 := by decide +kernel
theorem dX9_init_79 : am_at cX9_init 79 (.dup) 1 80 := by decide +kernel
theorem dX9_init_80 : am_at cX9_init 80 (.invokespecial 49) 3 83 := by decide +kernel
theorem dX9_init_83 : am_at cX9_init 83 (.putfield 50) 3 86 := by decide +kernel
theorem dX9_init_86 : am_at cX9_init 86 (.aload_n 0) 1 87 := by decide +kernel
theorem dX9_init_87 : am_at cX9_init 87 (.iconst 4) 1 88 := by decide +kernel
theorem dX9_init_88 : am_at cX9_init 88 (.anewarray 54) 3 91 := by decide +kernel
theorem dX9_init_91 : am_at cX9_init 91 (.putfield 56) 3 94 := by decide +kernel
theorem dX9_init_94 : am_at cX9_init 94 (.iconst 0) 1 95 := by decide +kernel
theorem dX9_init_95 : am_at cX9_init 95 (.istore_n 1) 1 96 := by decide +kernel
theorem dX9_init_96 : am_at cX9_init 96 (.iload_n 1) 1 97 := by decide +kernel
theorem dX9_init_97 : am_at cX9_init 97 (.iconst 4) 1 98 := by decide +kernel
theorem dX9_init_98 : am_at cX9_init 98 (.if_icmp .ge 22) 3 101 := by decide +kernel
theorem dX9_init_101 : am_at cX9_init 101 (.aload_n 0) 1 102 := by decide +kernel
theorem dX9_init_102 : am_at cX9_init 102 (.getfield 56) 3 105 := by decide +kernel
theorem dX9_init_105 : am_at cX9_init 105 (.iload_n 1) 1 106 := by decide +kernel
theorem dX9_init_106 : am_at cX9_init 106 (.new 54) 3 109 := by decide +kernel
theorem dX9_init_109 : am_at cX9_init 109 (.dup) 1 110 := by decide +kernel
theorem dX9_init_110 : am_at cX9_init 110 (.invokespecial 60) 3 113 := by decide +kernel
theorem dX9_init_113 : am_at cX9_init 113 (.aastore) 1 114 := by decide +kernel
theorem dX9_init_114 : am_at cX9_init 114 (.iinc 1 1) 3 117 := by decide +kernel
theorem dX9_init_117 : am_at cX9_init 117 (.goto (-21)) 3 120 := by decide +kernel
theorem dX9_init_120 : am_at cX9_init 120 (.aload_n 0) 1 121 := by decide +kernel
theorem dX9_init_121 : am_at cX9_init 121 (.iconst 5) 1 122 := by decide +kernel
theorem dX9_init_122 : am_at cX9_init 122 (.anewarray 61) 3 125 := by decide +kernel
theorem dX9_init_125 : am_at cX9_init 125 (.putfield 63) 3 128 := by decide +kernel
theorem dX9_init_128 : am_at cX9_init 128 (.iconst 0) 1 129 := by decide +kernel
theorem dX9_init_129 : am_at cX9_init 129 (.istore_n 1) 1 130 := by decide +kernel
theorem dX9_init_130 : am_at cX9_init 130 (.iload_n 1) 1 131 := by decide +kernel
theorem dX9_init_131 : am_at cX9_init 131 (.iconst 5) 1 132 := by decide +kernel
theorem dX9_init_132 : am_at cX9_init 132 (.if_icmp .ge 22) 3 135 := by decide +kernel
theorem dX9_init_135 : am_at cX9_init 135 (.aload_n 0) 1 136 := by decide +kernel
theorem dX9_init_136 : am_at cX9_init 136 (.getfield 63) 3 139 := by decide +kernel
theorem dX9_init_139 : am_at cX9_init 139 (.iload_n 1) 1 140 := by decide +kernel
theorem dX9_init_140 : am_at cX9_init 140 (.new 61) 3 143 := by decide +kernel
theorem dX9_init_143 : am_at cX9_init 143 (.dup) 1 144 := by decide +kernel
theorem dX9_init_144 : am_at cX9_init 144 (.invokespecial 67) 3 147 := by decide +kernel
theorem dX9_init_147 : am_at cX9_init 147 (.aastore) 1 148 := by decide +kernel
theorem dX9_init_148 : am_at cX9_init 148 (.iinc 1 1) 3 151 := by decide +kernel
theorem dX9_init_151 : am_at cX9_init 151 (.goto (-21)) 3 154 := by decide +kernel
theorem dX9_init_154 : am_at cX9_init 154 (.aload_n 0) 1 155 := by decide +kernel
theorem dX9_init_155 : am_at cX9_init 155 (.bipush 60) 2 157 := by decide +kernel
theorem dX9_init_157 : am_at cX9_init 157 (.newarray .int) 2 159 := by decide +kernel
theorem dX9_init_159 : am_at cX9_init 159 (.putfield 68) 3 162 := by decide +kernel
theorem dX9_init_162 : am_at cX9_init 162 (.aload_n 0) 1 163 := by decide +kernel
theorem dX9_init_163 : am_at cX9_init 163 (.iconst 0) 1 164 := by decide +kernel
theorem dX9_init_164 : am_at cX9_init 164 (.putfield 72) 3 167 := by decide +kernel
theorem dX9_init_167 : am_at cX9_init 167 (.return_) 1 168 := by decide +kernel
def fxX9_init_b130 : Nat → Option Nat → Int32 → am_H → Option (Unit × am_H)
  | 0, _, _, _ => none
  | n + 1, l0, l1, h => if (5 : Int32) ≤ l1 then (am_lt (am_nw h (.inl (0, 60))) (fun h34 => am_gd (am_ob h34 l0 9) (am_lt (am_sr h34 l0 10 (some h.1)) (fun h35 => am_gd (am_ob h35 l0 9) (am_lt (am_si h35 l0 11 (0 : Int32)) (fun h36 => some ((), h36))))))) else (am_gd (am_ob h l0 9) (am_lt (am_nw h (.inr 6)) (fun h37 => am_gd (some h.1).isSome (am_bd (fxX6_init (some h.1) h37) (fun _ h38 => am_gd (am_ix h38 (am_gr h l0 9) 6 l1 && am_ob h38 (some h.1) (am_ec 6)) (am_lt (am_sr h38 (am_gr h l0 9) l1.toNatClampNeg (some h.1)) (fun h39 => am_lt (l1 + 1) (fun x40 => fxX9_init_b130 n l0 x40 h39))))))))
set_option maxRecDepth 100000 in
theorem sxX9_init_b130 {xs : List Int32} : ∀ (n : Nat) (l0 : Option Nat) (l1 : Int32) (h : am_H), am_Sm xs am_cu mX9_init 3 (1 + n * 4) (60 + n * 37) 130 [some (am_R l0), some (am_I l1)] [] h (fxX9_init_b130 n l0 l1 h) := by
  intro n
  induction n with
  | zero => intros; exact am_none
  | succ n ih =>
    intro l0 l1 h
    rw [fxX9_init_b130]
    refine am_rcw (rc' := 5 + n * 4) (rs' := 97 + n * 37) ?_ (by rw [Nat.add_mul]; omega) (by rw [Nat.add_mul]; omega)
    refine am_iload_n dX9_init_130 rfl ?_
    refine am_iconst (v := 5) dX9_init_131 (by decide) ?_
    refine am_icmp_ge (tgt := 154) dX9_init_132 (by decide) (fun c41 => ?_) (fun c41 => ?_)
    · refine am_rcw (rc' := 1) (rs' := 60) ?_ (by omega) (by omega)
      refine am_aload_n dX9_init_154 rfl ?_
      refine am_bipush (v := 60) dX9_init_155 (by decide) ?_
      refine am_newI (N := 60) (rc' := 0) (rs' := 0) dX9_init_157 wd108 (by decide) (by decide) (by decide) (by omega) (by omega) (fun h34 => ?_)
      refine am_putR dX9_init_159 fk_RX9_68 ⟨_, rfl, Or.inr ⟨rfl, rfl, rfl⟩⟩ rfl (fun h35 => ?_)
      refine am_aload_n dX9_init_162 rfl ?_
      refine am_iconst (v := 0) dX9_init_163 (by decide) ?_
      refine am_putI dX9_init_164 fk_RX9_72 ⟨_, rfl, Or.inl rfl⟩ rfl (fun h36 => ?_)
      exact am_vret dX9_init_167 rfl rfl
    refine am_rcw (rc' := (5 + n * 4)) (rs' := (97 + n * 37)) ?_ (by omega) (by omega)
    refine am_aload_n dX9_init_135 rfl ?_
    refine am_getR dX9_init_136 fk_RX9_63 rfl ?_
    refine am_iload_n dX9_init_139 rfl ?_
    refine am_new (ci := 6) (rc' := (4 + n * 4)) (rs' := (93 + n * 37)) dX9_init_140 ⟨_, rfl, wd241, wd243, wd10⟩ (by omega) (by show _ + 4 ≤ _; omega) (fun h37 => ?_)
    refine am_dup dX9_init_143 ?_
    refine am_callI (cvj := am_cu) (mtj := mX6_init) (dj := 2) (nj := 0) (rcj := 3) (rsj := 33) (rc' := (1 + n * 4)) (rs' := (60 + n * 37)) (st' := fun _ => [am_R (some h.1), am_I l1, am_R (am_gr h l0 9)]) [] [am_R (some h.1), am_I l1, am_R (am_gr h l0 9)] dX9_init_144 okX6_init lk_RX9_67 (fun zA zH zE => txX6_init (some h.1) h37 zA zH zE) rfl (fun _ => rfl) (by decide) rfl (Nat.le_of_ble_eq_true rfl) (by omega) (by omega) (fun _ h38 => ?_)
    refine am_aast (t := 6) dX9_init_147 (by decide) (by decide) (fun h39 => ?_)
    refine am_iinc (v := 1) (LL := fun y9 => [some (am_R l0), some (am_I y9)]) dX9_init_148 (by decide) rfl (by decide) (fun _ => rfl) (fun x40 => ?_)
    refine am_goto (tgt := 130) dX9_init_151 (by decide) ?_
    exact am_weak (ih l0 x40 h39) ⟨rfl, ⟨rfl, trivial⟩⟩ (by first | omega | (unfold am_G; omega)) (by first | omega | (unfold am_G; omega))
def fxX9_init_b96 : Nat → Option Nat → Int32 → am_H → Option (Unit × am_H)
  | 0, _, _, _ => none
  | n + 1, l0, l1, h => if (4 : Int32) ≤ l1 then (am_lt (am_nw h (.inl (6, 5))) (fun h26 => am_gd (am_ob h26 l0 9) (am_lt (am_sr h26 l0 9 (some h.1)) (fun h27 => am_lt (0 : Int32) (fun x28 => fxX9_init_b130 am_G l0 x28 h27))))) else (am_gd (am_ob h l0 9) (am_lt (am_nw h (.inr 5)) (fun h29 => am_gd (some h.1).isSome (am_bd (fxX5_init (some h.1) h29) (fun _ h30 => am_gd (am_ix h30 (am_gr h l0 8) 5 l1 && am_ob h30 (some h.1) (am_ec 5)) (am_lt (am_sr h30 (am_gr h l0 8) l1.toNatClampNeg (some h.1)) (fun h31 => am_lt (l1 + 1) (fun x32 => fxX9_init_b96 n l0 x32 h31))))))))
set_option maxRecDepth 100000 in
theorem sxX9_init_b96 {xs : List Int32} : ∀ (n : Nat) (l0 : Option Nat) (l1 : Int32) (h : am_H), am_Sm xs am_cu mX9_init 3 (82 + n * 2) (805 + n * 27) 96 [some (am_R l0), some (am_I l1)] [] h (fxX9_init_b96 n l0 l1 h) := by
  intro n
  induction n with
  | zero => intros; exact am_none
  | succ n ih =>
    intro l0 l1 h
    rw [fxX9_init_b96]
    refine am_rcw (rc' := 84 + n * 2) (rs' := 832 + n * 27) ?_ (by rw [Nat.add_mul]; omega) (by rw [Nat.add_mul]; omega)
    refine am_iload_n dX9_init_96 rfl ?_
    refine am_iconst (v := 4) dX9_init_97 (by decide) ?_
    refine am_icmp_ge (tgt := 120) dX9_init_98 (by decide) (fun c33 => ?_) (fun c33 => ?_)
    · refine am_rcw (rc' := 82) (rs' := 805) ?_ (by omega) (by omega)
      refine am_aload_n dX9_init_120 rfl ?_
      refine am_iconst (v := 5) dX9_init_121 (by decide) ?_
      refine am_newR (t := 6) (N := 5) (rc' := 81) (rs' := 800) dX9_init_122 (by decide) (by decide) wd241 (by decide) (by decide) (by decide) (by omega) (by omega) (fun h26 => ?_)
      refine am_putR dX9_init_125 fk_RX9_63 ⟨_, rfl, Or.inr ⟨rfl, rfl, rfl⟩⟩ rfl (fun h27 => ?_)
      refine am_iconst (v := 0) dX9_init_128 (by decide) ?_
      refine am_istore_n (LL := fun y9 => [some (am_R l0), some (am_I y9)]) dX9_init_129 (by decide) (fun _ => rfl) (fun x28 => ?_)
      exact am_weak (sxX9_init_b130 am_G l0 x28 h27) ⟨rfl, ⟨rfl, trivial⟩⟩ (by first | omega | (unfold am_G; omega)) (by first | omega | (unfold am_G; omega))
    refine am_rcw (rc' := (84 + n * 2)) (rs' := (832 + n * 27)) ?_ (by omega) (by omega)
    refine am_aload_n dX9_init_101 rfl ?_
    refine am_getR dX9_init_102 fk_RX9_56 rfl ?_
    refine am_iload_n dX9_init_105 rfl ?_
    refine am_new (ci := 5) (rc' := (83 + n * 2)) (rs' := (829 + n * 27)) dX9_init_106 ⟨_, rfl, wd220, wd222, wd9⟩ (by omega) (by show _ + 3 ≤ _; omega) (fun h29 => ?_)
    refine am_dup dX9_init_109 ?_
    refine am_callI (cvj := am_cu) (mtj := mX5_init) (dj := 1) (nj := 0) (rcj := 1) (rsj := 24) (rc' := (82 + n * 2)) (rs' := (805 + n * 27)) (st' := fun _ => [am_R (some h.1), am_I l1, am_R (am_gr h l0 8)]) [] [am_R (some h.1), am_I l1, am_R (am_gr h l0 8)] dX9_init_110 okX5_init lk_RX9_60 (fun zA zH zE => txX5_init (some h.1) h29 zA zH zE) rfl (fun _ => rfl) (by decide) rfl (Nat.le_of_ble_eq_true rfl) (by omega) (by omega) (fun _ h30 => ?_)
    refine am_aast (t := 5) dX9_init_113 (by decide) (by decide) (fun h31 => ?_)
    refine am_iinc (v := 1) (LL := fun y9 => [some (am_R l0), some (am_I y9)]) dX9_init_114 (by decide) rfl (by decide) (fun _ => rfl) (fun x32 => ?_)
    refine am_goto (tgt := 96) dX9_init_117 (by decide) ?_
    exact am_weak (ih l0 x32 h31) ⟨rfl, ⟨rfl, trivial⟩⟩ (by first | omega | (unfold am_G; omega)) (by first | omega | (unfold am_G; omega))
def fxX9_init (l0 : Option Nat) (h : am_H) : Option (Unit × am_H) := am_gd l0.isSome (am_lt (am_nw h (.inr 2)) (fun h1 => am_gd (some h.1).isSome (am_bd (fxX2_init (some h.1) h1) (fun _ h2 => am_gd (am_ob h2 l0 9) (am_lt (am_sr h2 l0 0 (some h.1)) (fun h3 => am_lt (am_nw h3 (.inr 2)) (fun h4 => am_gd (some h3.1).isSome (am_bd (fxX2_init (some h3.1) h4) (fun _ h5 => am_gd (am_ob h5 l0 9) (am_lt (am_sr h5 l0 1 (some h3.1)) (fun h6 => am_lt (am_nw h6 (.inr 2)) (fun h7 => am_gd (some h6.1).isSome (am_bd (fxX2_init (some h6.1) h7) (fun _ h8 => am_gd (am_ob h8 l0 9) (am_lt (am_sr h8 l0 2 (some h6.1)) (fun h9 => am_gd (am_ob h9 l0 9 && am_bz (0 : Int32)) (am_lt (am_si h9 l0 3 (0 : Int32)) (fun h10 => am_lt (am_nw h10 (.inr 0)) (fun h11 => am_gd (some h10.1).isSome (am_bd (fxX0_init (some h10.1) h11) (fun _ h12 => am_gd (am_ob h12 l0 9) (am_lt (am_sr h12 l0 4 (some h10.1)) (fun h13 => am_lt (am_nw h13 (.inr 8)) (fun h14 => am_gd (some h13.1).isSome (am_bd (fxX8_init (some h13.1) h14) (fun _ h15 => am_gd (am_ob h15 l0 9) (am_lt (am_sr h15 l0 5 (some h13.1)) (fun h16 => am_lt (am_nw h16 (.inr 7)) (fun h17 => am_gd (some h16.1).isSome (am_bd (fxX7_init (some h16.1) h17) (fun _ h18 => am_gd (am_ob h18 l0 9) (am_lt (am_sr h18 l0 6 (some h16.1)) (fun h19 => am_lt (am_nw h19 (.inr 4)) (fun h20 => am_gd (some h19.1).isSome (am_bd (fxX4_init (some h19.1) h20) (fun _ h21 => am_gd (am_ob h21 l0 9) (am_lt (am_sr h21 l0 7 (some h19.1)) (fun h22 => am_lt (am_nw h22 (.inl (5, 4))) (fun h23 => am_gd (am_ob h23 l0 9) (am_lt (am_sr h23 l0 8 (some h22.1)) (fun h24 => am_lt (0 : Int32) (fun x25 => fxX9_init_b96 am_G l0 x25 h24))))))))))))))))))))))))))))))))))))))))))
set_option maxRecDepth 100000 in
theorem sxX9_init {xs : List Int32} (l0 : Option Nat) (h : am_H) : am_Sm xs am_cu mX9_init 3 254 6020 0 [some (am_R l0), none] [] h (fxX9_init l0 h) := by
  unfold fxX9_init
  refine am_aload_n dX9_init_0 rfl ?_
  refine am_objInit dX9_init_1 wd24 wd25 wd26 (by decide) (Nat.le_of_ble_eq_true rfl) ?_
  refine am_aload_n dX9_init_4 rfl ?_
  refine am_new (ci := 2) (rc' := 253) (rs' := 6010) dX9_init_5 ⟨_, rfl, wd27, wd28, wd2⟩ (by omega) (by show _ + 10 ≤ _; omega) (fun h1 => ?_)
  refine am_dup dX9_init_8 ?_
  refine am_callI (cvj := am_cu) (mtj := mX2_init) (dj := 2) (nj := 0) (rcj := 24) (rsj := 153) (rc' := 229) (rs' := 5857) (st' := fun _ => [am_R (some h.1), am_R l0]) [] [am_R (some h.1), am_R l0] dX9_init_9 okX2_init lk_RX9_9 (fun zA zH zE => txX2_init (some h.1) h1 zA zH zE) rfl (fun _ => rfl) (by decide) rfl (Nat.le_of_ble_eq_true rfl) (by omega) (by omega) (fun _ h2 => ?_)
  refine am_putR dX9_init_12 fk_RX9_10 ⟨_, rfl, Or.inr ⟨rfl, rfl, rfl⟩⟩ rfl (fun h3 => ?_)
  refine am_aload_n dX9_init_15 rfl ?_
  refine am_new (ci := 2) (rc' := 228) (rs' := 5847) dX9_init_16 ⟨_, rfl, wd27, wd28, wd2⟩ (by omega) (by show _ + 10 ≤ _; omega) (fun h4 => ?_)
  refine am_dup dX9_init_19 ?_
  refine am_callI (cvj := am_cu) (mtj := mX2_init) (dj := 2) (nj := 0) (rcj := 24) (rsj := 153) (rc' := 204) (rs' := 5694) (st' := fun _ => [am_R (some h3.1), am_R l0]) [] [am_R (some h3.1), am_R l0] dX9_init_20 okX2_init lk_RX9_9 (fun zA zH zE => txX2_init (some h3.1) h4 zA zH zE) rfl (fun _ => rfl) (by decide) rfl (Nat.le_of_ble_eq_true rfl) (by omega) (by omega) (fun _ h5 => ?_)
  refine am_putR dX9_init_23 fk_RX9_16 ⟨_, rfl, Or.inr ⟨rfl, rfl, rfl⟩⟩ rfl (fun h6 => ?_)
  refine am_aload_n dX9_init_26 rfl ?_
  refine am_new (ci := 2) (rc' := 203) (rs' := 5684) dX9_init_27 ⟨_, rfl, wd27, wd28, wd2⟩ (by omega) (by show _ + 10 ≤ _; omega) (fun h7 => ?_)
  refine am_dup dX9_init_30 ?_
  refine am_callI (cvj := am_cu) (mtj := mX2_init) (dj := 2) (nj := 0) (rcj := 24) (rsj := 153) (rc' := 179) (rs' := 5531) (st' := fun _ => [am_R (some h6.1), am_R l0]) [] [am_R (some h6.1), am_R l0] dX9_init_31 okX2_init lk_RX9_9 (fun zA zH zE => txX2_init (some h6.1) h7 zA zH zE) rfl (fun _ => rfl) (by decide) rfl (Nat.le_of_ble_eq_true rfl) (by omega) (by omega) (fun _ h8 => ?_)
  refine am_putR dX9_init_34 fk_RX9_19 ⟨_, rfl, Or.inr ⟨rfl, rfl, rfl⟩⟩ rfl (fun h9 => ?_)
  refine am_aload_n dX9_init_37 rfl ?_
  refine am_iconst (v := 0) dX9_init_38 (by decide) ?_
  refine am_putZ dX9_init_39 fk_RX9_22 ⟨_, rfl, Or.inl rfl⟩ rfl (fun h10 => ?_)
  refine am_aload_n dX9_init_42 rfl ?_
  refine am_new (ci := 0) (rc' := 178) (rs' := 5528) dX9_init_43 ⟨_, rfl, wd109, wd110, wd4⟩ (by omega) (by show _ + 3 ≤ _; omega) (fun h11 => ?_)
  refine am_dup dX9_init_46 ?_
  refine am_callI (cvj := am_cu) (mtj := mX0_init) (dj := 2) (nj := 0) (rcj := 44) (rsj := 2210) (rc' := 134) (rs' := 3318) (st' := fun _ => [am_R (some h10.1), am_R l0]) [] [am_R (some h10.1), am_R l0] dX9_init_47 okX0_init lk_RX9_28 (fun zA zH zE => txX0_init (some h10.1) h11 zA zH zE) rfl (fun _ => rfl) (by decide) rfl (Nat.le_of_ble_eq_true rfl) (by omega) (by omega) (fun _ h12 => ?_)
  refine am_putR dX9_init_50 fk_RX9_29 ⟨_, rfl, Or.inr ⟨rfl, rfl, rfl⟩⟩ rfl (fun h13 => ?_)
  refine am_aload_n dX9_init_53 rfl ?_
  refine am_new (ci := 8) (rc' := 133) (rs' := 3311) dX9_init_54 ⟨_, rfl, wd150, wd151, wd6⟩ (by omega) (by show _ + 7 ≤ _; omega) (fun h14 => ?_)
  refine am_dup dX9_init_57 ?_
  refine am_callI (cvj := am_cu) (mtj := mX8_init) (dj := 2) (nj := 0) (rcj := 3) (rsj := 196) (rc' := 130) (rs' := 3115) (st' := fun _ => [am_R (some h13.1), am_R l0]) [] [am_R (some h13.1), am_R l0] dX9_init_58 okX8_init lk_RX9_35 (fun zA zH zE => txX8_init (some h13.1) h14 zA zH zE) rfl (fun _ => rfl) (by decide) rfl (Nat.le_of_ble_eq_true rfl) (by omega) (by omega) (fun _ h15 => ?_)
  refine am_putR dX9_init_61 fk_RX9_36 ⟨_, rfl, Or.inr ⟨rfl, rfl, rfl⟩⟩ rfl (fun h16 => ?_)
  refine am_aload_n dX9_init_64 rfl ?_
  refine am_new (ci := 7) (rc' := 129) (rs' := 3111) dX9_init_65 ⟨_, rfl, wd181, wd182, wd7⟩ (by omega) (by show _ + 4 ≤ _; omega) (fun h17 => ?_)
  refine am_dup dX9_init_68 ?_
  refine am_callI (cvj := am_cu) (mtj := mX7_init) (dj := 1) (nj := 0) (rcj := 3) (rsj := 1134) (rc' := 126) (rs' := 1977) (st' := fun _ => [am_R (some h16.1), am_R l0]) [] [am_R (some h16.1), am_R l0] dX9_init_69 okX7_init lk_RX9_42 (fun zA zH zE => txX7_init (some h16.1) h17 zA zH zE) rfl (fun _ => rfl) (by decide) rfl (Nat.le_of_ble_eq_true rfl) (by omega) (by omega) (fun _ h18 => ?_)
  refine am_putR dX9_init_72 fk_RX9_43 ⟨_, rfl, Or.inr ⟨rfl, rfl, rfl⟩⟩ rfl (fun h19 => ?_)
  refine am_aload_n dX9_init_75 rfl ?_
  refine am_new (ci := 4) (rc' := 125) (rs' := 1974) dX9_init_76 ⟨_, rfl, wd200, wd201, wd8⟩ (by omega) (by show _ + 3 ≤ _; omega) (fun h20 => ?_)
  refine am_dup dX9_init_79 ?_
  refine am_callI (cvj := am_cu) (mtj := mX4_init) (dj := 1) (nj := 0) (rcj := 2) (rsj := 625) (rc' := 123) (rs' := 1349) (st' := fun _ => [am_R (some h19.1), am_R l0]) [] [am_R (some h19.1), am_R l0] dX9_init_80 okX4_init lk_RX9_49 (fun zA zH zE => txX4_init (some h19.1) h20 zA zH zE) rfl (fun _ => rfl) (by decide) rfl (Nat.le_of_ble_eq_true rfl) (by omega) (by omega) (fun _ h21 => ?_)
  refine am_putR dX9_init_83 fk_RX9_50 ⟨_, rfl, Or.inr ⟨rfl, rfl, rfl⟩⟩ rfl (fun h22 => ?_)
  refine am_aload_n dX9_init_86 rfl ?_
  refine am_iconst (v := 4) dX9_init_87 (by decide) ?_
  refine am_newR (t := 5) (N := 4) (rc' := 122) (rs' := 1345) dX9_init_88 (by decide) (by decide) wd220 (by decide) (by decide) (by decide) (by omega) (by omega) (fun h23 => ?_)
  refine am_putR dX9_init_91 fk_RX9_56 ⟨_, rfl, Or.inr ⟨rfl, rfl, rfl⟩⟩ rfl (fun h24 => ?_)
  refine am_iconst (v := 0) dX9_init_94 (by decide) ?_
  refine am_istore_n (LL := fun y9 => [some (am_R l0), some (am_I y9)]) dX9_init_95 (by decide) (fun _ => rfl) (fun x25 => ?_)
  exact am_weak (sxX9_init_b96 am_G l0 x25 h24) ⟨rfl, ⟨rfl, trivial⟩⟩ (by first | omega | (unfold am_G; omega)) (by first | omega | (unfold am_G; omega))
theorem txX9_init {xs : List Int32} (l0 : Option Nat) (h : am_H) (a : Unit) (h2 : am_H) (e : fxX9_init l0 h = some (a, h2)) : am_Ct xs mX9_init 3 254 6020 [am_R l0] h (fun v h3 => v = am_cu a ∧ h3 = h2) := am_meth okX9_init (Nat.le_of_ble_eq_true rfl) rfl (sxX9_init l0 h) e
theorem dX10_init_0 : am_at cX10_init 0 (.aload_n 0) 1 1 := by decide +kernel
theorem dX10_init_1 : am_at cX10_init 1 (.invokespecial 1) 3 4 := by decide +kernel
theorem dX10_init_4 : am_at cX10_init 4 (.aload_n 0) 1 5 := by decide +kernel
theorem dX10_init_5 : am_at cX10_init 5 (.sipush 1448) 3 8 := by decide +kernel
theorem dX10_init_8 : am_at cX10_init 8 (.newarray .int) 2 10 := by decide +kernel
theorem dX10_init_10 : am_at cX10_init 10 (.putfield 9) 3 13 := by decide +kernel
theorem dX10_init_13 : am_at cX10_init 13 (.aload_n 0) 1 14 := by decide +kernel
theorem dX10_init_14 : am_at cX10_init 14 (.sipush 1448) 3 17 := by decide +kernel
theorem dX10_init_17 : am_at cX10_init 17 (.newarray .int) 2 19 := by decide +kernel
theorem dX10_init_19 : am_at cX10_init 19 (.putfield 13) 3 22 := by decide +kernel
theorem dX10_init_22 : am_at cX10_init 22 (.aload_n 0) 1 23 := by decide +kernel
theorem dX10_init_23 : am_at cX10_init 23 (.sipush 1448) 3 26 := by decide +kernel
theorem dX10_init_26 : am_at cX10_init 26 (.newarray .int) 2 28 := by decide +kernel
theorem dX10_init_28 : am_at cX10_init 28 (.putfield 16) 3 31 := by decide +kernel
theorem dX10_init_31 : am_at cX10_init 31 (.aload_n 0) 1 32 := by decide +kernel
theorem dX10_init_32 : am_at cX10_init 32 (.bipush 100) 2 34 := by decide +kernel
theorem dX10_init_34 : am_at cX10_init 34 (.newarray .int) 2 36 := by decide +kernel
theorem dX10_init_36 : am_at cX10_init 36 (.putfield 19) 3 39 := by decide +kernel
theorem dX10_init_39 : am_at cX10_init 39 (.aload_n 0) 1 40 := by decide +kernel
theorem dX10_init_40 : am_at cX10_init 40 (.sipush 1024) 3 43 := by decide +kernel
theorem dX10_init_43 : am_at cX10_init 43 (.newarray .int) 2 45 := by decide +kernel
theorem dX10_init_45 : am_at cX10_init 45 (.putfield 22) 3 48 := by decide +kernel
theorem dX10_init_48 : am_at cX10_init 48 (.aload_n 0) 1 49 := by decide +kernel
theorem dX10_init_49 : am_at cX10_init 49 (.bipush 76) 2 51 := by decide +kernel
theorem dX10_init_51 : am_at cX10_init 51 (.newarray .int) 2 53 := by decide +kernel
theorem dX10_init_53 : am_at cX10_init 53 (.putfield 25) 3 56 := by decide +kernel
theorem dX10_init_56 : am_at cX10_init 56 (.aload_n 0) 1 57 := by decide +kernel
theorem dX10_init_57 : am_at cX10_init 57 (.bipush 25) 2 59 := by decide +kernel
theorem dX10_init_59 : am_at cX10_init 59 (.newarray .int) 2 61 := by decide +kernel
theorem dX10_init_61 : am_at cX10_init 61 (.putfield 28) 3 64 := by decide +kernel
theorem dX10_init_64 : am_at cX10_init 64 (.aload_n 0) 1 65 := by decide +kernel
theorem dX10_init_65 : am_at cX10_init 65 (.bipush 96) 2 67 := by decide +kernel
theorem dX10_init_67 : am_at cX10_init 67 (.newarray .int) 2 69 := by decide +kernel
theorem dX10_init_69 : am_at cX10_init 69 (.putfield 31) 3 72 := by decide +kernel
theorem dX10_init_72 : am_at cX10_init 72 (.aload_n 0) 1 73 := by decide +kernel
theorem dX10_init_73 : am_at cX10_init 73 (.bipush 12) 2 75 := by decide +kernel
theorem dX10_init_75 : am_at cX10_init 75 (.newarray .char) 2 77 := by decide +kernel
theorem dX10_init_77 : am_at cX10_init 77 (.dup) 1 78 := by decide +kernel
theorem dX10_init_78 : am_at cX10_init 78 (.iconst 0) 1 79 := by decide +kernel
theorem dX10_init_79 : am_at cX10_init 79 (.bipush 112) 2 81 := by decide +kernel
theorem dX10_init_81 : am_at cX10_init 81 (.castore) 1 82 := by decide +kernel
theorem dX10_init_82 : am_at cX10_init 82 (.dup) 1 83 := by decide +kernel
theorem dX10_init_83 : am_at cX10_init 83 (.iconst 1) 1 84 := by decide +kernel
theorem dX10_init_84 : am_at cX10_init 84 (.bipush 97) 2 86 := by decide +kernel
theorem dX10_init_86 : am_at cX10_init 86 (.castore) 1 87 := by decide +kernel
theorem dX10_init_87 : am_at cX10_init 87 (.dup) 1 88 := by decide +kernel
theorem dX10_init_88 : am_at cX10_init 88 (.iconst 2) 1 89 := by decide +kernel
theorem dX10_init_89 : am_at cX10_init 89 (.bipush 105) 2 91 := by decide +kernel
theorem dX10_init_91 : am_at cX10_init 91 (.castore) 1 92 := by decide +kernel
theorem dX10_init_92 : am_at cX10_init 92 (.dup) 1 93 := by decide +kernel
theorem dX10_init_93 : am_at cX10_init 93 (.iconst 3) 1 94 := by decide +kernel
theorem dX10_init_94 : am_at cX10_init 94 (.bipush 114) 2 96 := by decide +kernel
theorem dX10_init_96 : am_at cX10_init 96 (.castore) 1 97 := by decide +kernel
theorem dX10_init_97 : am_at cX10_init 97 (.dup) 1 98 := by decide +kernel
theorem dX10_init_98 : am_at cX10_init 98 (.iconst 4) 1 99 := by decide +kernel
theorem dX10_init_99 : am_at cX10_init 99 (.bipush 119) 2 101 := by decide +kernel
theorem dX10_init_101 : am_at cX10_init 101 (.castore) 1 102 := by decide +kernel
theorem dX10_init_102 : am_at cX10_init 102 (.dup) 1 103 := by decide +kernel
theorem dX10_init_103 : am_at cX10_init 103 (.iconst 5) 1 104 := by decide +kernel
theorem dX10_init_104 : am_at cX10_init 104 (.bipush 101) 2 106 := by decide +kernel
theorem dX10_init_106 : am_at cX10_init 106 (.castore) 1 107 := by decide +kernel
theorem dX10_init_107 : am_at cX10_init 107 (.dup) 1 108 := by decide +kernel
theorem dX10_init_108 : am_at cX10_init 108 (.bipush 6) 2 110 := by decide +kernel
theorem dX10_init_110 : am_at cX10_init 110 (.bipush 97) 2 112 := by decide +kernel
theorem dX10_init_112 : am_at cX10_init 112 (.castore) 1 113 := by decide +kernel
theorem dX10_init_113 : am_at cX10_init 113 (.dup) 1 114 := by decide +kernel
theorem dX10_init_114 : am_at cX10_init 114 (.bipush 7) 2 116 := by decide +kernel
theorem dX10_init_116 : am_at cX10_init 116 (.bipush 114) 2 118 := by decide +kernel
theorem dX10_init_118 : am_at cX10_init 118 (.castore) 1 119 := by decide +kernel
theorem dX10_init_119 : am_at cX10_init 119 (.dup) 1 120 := by decide +kernel
theorem dX10_init_120 : am_at cX10_init 120 (.bipush 8) 2 122 := by decide +kernel
theorem dX10_init_122 : am_at cX10_init 122 (.bipush 102) 2 124 := by decide +kernel
theorem dX10_init_124 : am_at cX10_init 124 (.castore) 1 125 := by decide +kernel
theorem dX10_init_125 : am_at cX10_init 125 (.dup) 1 126 := by decide +kernel
theorem dX10_init_126 : am_at cX10_init 126 (.bipush 9) 2 128 := by decide +kernel
theorem dX10_init_128 : am_at cX10_init 128 (.bipush 105) 2 130 := by decide +kernel
theorem dX10_init_130 : am_at cX10_init 130 (.castore) 1 131 := by decide +kernel
theorem dX10_init_131 : am_at cX10_init 131 (.dup) 1 132 := by decide +kernel
theorem dX10_init_132 : am_at cX10_init 132 (.bipush 10) 2 134 := by decide +kernel
theorem dX10_init_134 : am_at cX10_init 134 (.bipush 110) 2 136 := by decide +kernel
theorem dX10_init_136 : am_at cX10_init 136 (.castore) 1 137 := by decide +kernel
theorem dX10_init_137 : am_at cX10_init 137 (.dup) 1 138 := by decide +kernel
theorem dX10_init_138 : am_at cX10_init 138 (.bipush 11) 2 140 := by decide +kernel
theorem dX10_init_140 : am_at cX10_init 140 (.bipush 101) 2 142 := by decide +kernel
theorem dX10_init_142 : am_at cX10_init 142 (.castore) 1 143 := by decide +kernel
theorem dX10_init_143 : am_at cX10_init 143 (.putfield 34) 3 146 := by decide +kernel
theorem dX10_init_146 : am_at cX10_init 146 (.aload_n 0) 1 147 := by decide +kernel
theorem dX10_init_147 : am_at cX10_init 147 (.iconst 4) 1 148 := by decide +kernel
theorem dX10_init_148 : am_at cX10_init 148 (.newarray .int) 2 150 := by decide +kernel
theorem dX10_init_150 : am_at cX10_init 150 (.dup) 1 151 := by decide +kernel
theorem dX10_init_151 : am_at cX10_init 151 (.iconst 0) 1 152 := by decide +kernel
theorem dX10_init_152 : am_at cX10_init 152 (.iconst 0) 1 153 := by decide +kernel
theorem dX10_init_153 : am_at cX10_init 153 (.iastore) 1 154 := by decide +kernel
theorem dX10_init_154 : am_at cX10_init 154 (.dup) 1 155 := by decide +kernel
theorem dX10_init_155 : am_at cX10_init 155 (.iconst 1) 1 156 := by decide +kernel
theorem dX10_init_156 : am_at cX10_init 156 (.iconst 4) 1 157 := by decide +kernel
theorem dX10_init_157 : am_at cX10_init 157 (.iastore) 1 158 := by decide +kernel
theorem dX10_init_158 : am_at cX10_init 158 (.dup) 1 159 := by decide +kernel
theorem dX10_init_159 : am_at cX10_init 159 (.iconst 2) 1 160 := by decide +kernel
theorem dX10_init_160 : am_at cX10_init 160 (.bipush 8) 2 162 := by decide +kernel
theorem dX10_init_162 : am_at cX10_init 162 (.iastore) 1 163 := by decide +kernel
theorem dX10_init_163 : am_at cX10_init 163 (.dup) 1 164 := by decide +kernel
theorem dX10_init_164 : am_at cX10_init 164 (.iconst 3) 1 165 := by decide +kernel
theorem dX10_init_165 : am_at cX10_init 165 (.bipush 12) 2 167 := by decide +kernel
theorem dX10_init_167 : am_at cX10_init 167 (.iastore) 1 168 := by decide +kernel
theorem dX10_init_168 : am_at cX10_init 168 (.putfield 38) 3 171 := by decide +kernel
theorem dX10_init_171 : am_at cX10_init 171 (.aload_n 0) 1 172 := by decide +kernel
theorem dX10_init_172 : am_at cX10_init 172 (.bipush 96) 2 174 := by decide +kernel
theorem dX10_init_174 : am_at cX10_init 174 (.newarray .int) 2 176 := by decide +kernel
theorem dX10_init_176 : am_at cX10_init 176 (.putfield 41) 3 179 := by decide +kernel
theorem dX10_init_179 : am_at cX10_init 179 (.aload_n 0) 1 180 := by decide +kernel
theorem dX10_init_180 : am_at cX10_init 180 (.bipush 96) 2 182 := by decide +kernel
theorem dX10_init_182 : am_at cX10_init 182 (.newarray .int) 2 184 := by decide +kernel
theorem dX10_init_184 : am_at cX10_init 184 (.putfield 44) 3 187 := by decide +kernel
theorem dX10_init_187 : am_at cX10_init 187 (.aload_n 0) 1 188 := by decide +kernel
theorem dX10_init_188 : am_at cX10_init 188 (.bipush 10) 2 190 := by decide +kernel
theorem dX10_init_190 : am_at cX10_init 190 (.newarray .boolean) 2 192 := by decide +kernel
theorem dX10_init_192 : am_at cX10_init 192 (.putfield 47) 3 195 := by decide +kernel
theorem dX10_init_195 : am_at cX10_init 195 (.aload_n 0) 1 196 := by decide +kernel
theorem dX10_init_196 : am_at cX10_init 196 (.bipush 96) 2 198 := by decide +kernel
theorem dX10_init_198 : am_at cX10_init 198 (.newarray .int) 2 200 := by decide +kernel
theorem dX10_init_200 : am_at cX10_init 200 (.putfield 51) 3 203 := by decide +kernel
theorem dX10_init_203 : am_at cX10_init 203 (.aload_n 0) 1 204 := by decide +kernel
theorem dX10_init_204 : am_at cX10_init 204 (.iconst 4) 1 205 := by decide +kernel
theorem dX10_init_205 : am_at cX10_init 205 (.newarray .int) 2 207 := by decide +kernel
theorem dX10_init_207 : am_at cX10_init 207 (.putfield 54) 3 210 := by decide +kernel
theorem dX10_init_210 : am_at cX10_init 210 (.aload_n 0) 1 211 := by decide +kernel
theorem dX10_init_211 : am_at cX10_init 211 (.iconst 4) 1 212 := by decide +kernel
theorem dX10_init_212 : am_at cX10_init 212 (.newarray .int) 2 214 := by decide +kernel
theorem dX10_init_214 : am_at cX10_init 214 (.dup) 1 215 := by decide +kernel
theorem dX10_init_215 : am_at cX10_init 215 (.iconst 0) 1 216 := by decide +kernel
theorem dX10_init_216 : am_at cX10_init 216 (.iconst (-1)) 1 217 := by decide +kernel
theorem dX10_init_217 : am_at cX10_init 217 (.iastore) 1 218 := by decide +kernel
theorem dX10_init_218 : am_at cX10_init 218 (.dup) 1 219 := by decide +kernel
theorem dX10_init_219 : am_at cX10_init 219 (.iconst 1) 1 220 := by decide +kernel
theorem dX10_init_220 : am_at cX10_init 220 (.iconst (-1)) 1 221 := by decide +kernel
theorem dX10_init_221 : am_at cX10_init 221 (.iastore) 1 222 := by decide +kernel
theorem dX10_init_222 : am_at cX10_init 222 (.dup) 1 223 := by decide +kernel
theorem dX10_init_223 : am_at cX10_init 223 (.iconst 2) 1 224 := by decide +kernel
theorem dX10_init_224 : am_at cX10_init 224 (.iconst (-1)) 1 225 := by decide +kernel
theorem dX10_init_225 : am_at cX10_init 225 (.iastore) 1 226 := by decide +kernel
theorem dX10_init_226 : am_at cX10_init 226 (.dup) 1 227 := by decide +kernel
theorem dX10_init_227 : am_at cX10_init 227 (.iconst 3) 1 228 := by decide +kernel
theorem dX10_init_228 : am_at cX10_init 228 (.iconst (-1)) 1 229 := by decide +kernel
theorem dX10_init_229 : am_at cX10_init 229 (.iastore) 1 230 := by decide +kernel
theorem dX10_init_230 : am_at cX10_init 230 (.putfield 57) 3 233 := by decide +kernel
theorem dX10_init_233 : am_at cX10_init 233 (.aload_n 0) 1 234 := by decide +kernel
theorem dX10_init_234 : am_at cX10_init 234 (.iconst 4) 1 235 := by decide +kernel
theorem dX10_init_235 : am_at cX10_init 235 (.newarray .int) 2 237 := by decide +kernel
theorem dX10_init_237 : am_at cX10_init 237 (.putfield 60) 3 240 := by decide +kernel
theorem dX10_init_240 : am_at cX10_init 240 (.aload_n 0) 1 241 := by decide +kernel
theorem dX10_init_241 : am_at cX10_init 241 (.bipush 96) 2 243 := by decide +kernel
theorem dX10_init_243 : am_at cX10_init 243 (.newarray .int) 2 245 := by decide +kernel
theorem dX10_init_245 : am_at cX10_init 245 (.putfield 63) 3 248 := by decide +kernel
theorem dX10_init_248 : am_at cX10_init 248 (.aload_n 0) 1 249 := by decide +kernel
theorem dX10_init_249 : am_at cX10_init 249 (.iconst 5) 1 250 := by decide +kernel
theorem dX10_init_250 : am_at cX10_init 250 (.newarray .int) 2 252 := by decide +kernel
theorem dX10_init_252 : am_at cX10_init 252 (.putfield 66) 3 255 := by decide +kernel
theorem dX10_init_255 : am_at cX10_init 255 (.aload_n 0) 1 256 := by decide +kernel
theorem dX10_init_256 : am_at cX10_init 256 (.iconst 5) 1 257 := by decide +kernel
theorem dX10_init_257 : am_at cX10_init 257 (.newarray .int) 2 259 := by decide +kernel
theorem dX10_init_259 : am_at cX10_init 259 (.putfield 69) 3 262 := by decide +kernel
theorem dX10_init_262 : am_at cX10_init 262 (.aload_n 0) 1 263 := by decide +kernel
theorem dX10_init_263 : am_at cX10_init 263 (.iconst 5) 1 264 := by decide +kernel
theorem dX10_init_264 : am_at cX10_init 264 (.newarray .int) 2 266 := by decide +kernel
theorem dX10_init_266 : am_at cX10_init 266 (.putfield 72) 3 269 := by decide +kernel
theorem dX10_init_269 : am_at cX10_init 269 (.aload_n 0) 1 270 := by decide +kernel
theorem dX10_init_270 : am_at cX10_init 270 (.bipush 120) 2 272 := by decide +kernel
theorem dX10_init_272 : am_at cX10_init 272 (.newarray .int) 2 274 := by decide +kernel
theorem dX10_init_274 : am_at cX10_init 274 (.putfield 75) 3 277 := by decide +kernel
theorem dX10_init_277 : am_at cX10_init 277 (.aload_n 0) 1 278 := by decide +kernel
theorem dX10_init_278 : am_at cX10_init 278 (.bipush 24) 2 280 := by decide +kernel
theorem dX10_init_280 : am_at cX10_init 280 (.newarray .int) 2 282 := by decide +kernel
theorem dX10_init_282 : am_at cX10_init 282 (.putfield 78) 3 285 := by decide +kernel
theorem dX10_init_285 : am_at cX10_init 285 (.aload_n 0) 1 286 := by decide +kernel
theorem dX10_init_286 : am_at cX10_init 286 (.bipush 60) 2 288 := by decide +kernel
theorem dX10_init_288 : am_at cX10_init 288 (.newarray .int) 2 290 := by decide +kernel
theorem dX10_init_290 : am_at cX10_init 290 (.putfield 81) 3 293 := by decide +kernel
theorem dX10_init_293 : am_at cX10_init 293 (.aload_n 0) 1 294 := by decide +kernel
theorem dX10_init_294 : am_at cX10_init 294 (.getfield 9) 3 297 := by decide +kernel
theorem dX10_init_297 : am_at cX10_init 297 (.iconst 0) 1 298 := by decide +kernel
theorem dX10_init_298 : am_at cX10_init 298 (.iconst 1) 1 299 := by decide +kernel
theorem dX10_init_299 : am_at cX10_init 299 (.iastore) 1 300 := by decide +kernel
theorem dX10_init_300 : am_at cX10_init 300 (.aload_n 0) 1 301 := by decide +kernel
theorem dX10_init_301 : am_at cX10_init 301 (.getfield 9) 3 304 := by decide +kernel
theorem dX10_init_304 : am_at cX10_init 304 (.iconst 3) 1 305 := by decide +kernel
theorem dX10_init_305 : am_at cX10_init 305 (.iconst 5) 1 306 := by decide +kernel
theorem dX10_init_306 : am_at cX10_init 306 (.iastore) 1 307 := by decide +kernel
theorem dX10_init_307 : am_at cX10_init 307 (.return_) 1 308 := by decide +kernel
def fxX10_init (l0 : Option Nat) (h : am_H) : Option (Unit × am_H) := am_gd l0.isSome (am_lt (am_nw h (.inl (0, 1448))) (fun h1 => am_gd (am_ob h1 l0 10) (am_lt (am_sr h1 l0 0 (some h.1)) (fun h2 => am_lt (am_nw h2 (.inl (0, 1448))) (fun h3 => am_gd (am_ob h3 l0 10) (am_lt (am_sr h3 l0 1 (some h2.1)) (fun h4 => am_lt (am_nw h4 (.inl (0, 1448))) (fun h5 => am_gd (am_ob h5 l0 10) (am_lt (am_sr h5 l0 2 (some h4.1)) (fun h6 => am_lt (am_nw h6 (.inl (0, 100))) (fun h7 => am_gd (am_ob h7 l0 10) (am_lt (am_sr h7 l0 4 (some h6.1)) (fun h8 => am_lt (am_nw h8 (.inl (0, 1024))) (fun h9 => am_gd (am_ob h9 l0 10) (am_lt (am_sr h9 l0 5 (some h8.1)) (fun h10 => am_lt (am_nw h10 (.inl (0, 76))) (fun h11 => am_gd (am_ob h11 l0 10) (am_lt (am_sr h11 l0 6 (some h10.1)) (fun h12 => am_lt (am_nw h12 (.inl (0, 25))) (fun h13 => am_gd (am_ob h13 l0 10) (am_lt (am_sr h13 l0 7 (some h12.1)) (fun h14 => am_lt (am_nw h14 (.inl (0, 96))) (fun h15 => am_gd (am_ob h15 l0 10) (am_lt (am_sr h15 l0 8 (some h14.1)) (fun h16 => am_lt (am_nw h16 (.inl (1, 12))) (fun h17 => am_gd (am_ix h17 (some h16.1) 1 (0 : Int32) && am_cz (112 : Int32)) (am_lt (am_si h17 (some h16.1) (0 : Int32).toNatClampNeg (112 : Int32)) (fun h18 => am_gd (am_ix h18 (some h16.1) 1 (1 : Int32) && am_cz (97 : Int32)) (am_lt (am_si h18 (some h16.1) (1 : Int32).toNatClampNeg (97 : Int32)) (fun h19 => am_gd (am_ix h19 (some h16.1) 1 (2 : Int32) && am_cz (105 : Int32)) (am_lt (am_si h19 (some h16.1) (2 : Int32).toNatClampNeg (105 : Int32)) (fun h20 => am_gd (am_ix h20 (some h16.1) 1 (3 : Int32) && am_cz (114 : Int32)) (am_lt (am_si h20 (some h16.1) (3 : Int32).toNatClampNeg (114 : Int32)) (fun h21 => am_gd (am_ix h21 (some h16.1) 1 (4 : Int32) && am_cz (119 : Int32)) (am_lt (am_si h21 (some h16.1) (4 : Int32).toNatClampNeg (119 : Int32)) (fun h22 => am_gd (am_ix h22 (some h16.1) 1 (5 : Int32) && am_cz (101 : Int32)) (am_lt (am_si h22 (some h16.1) (5 : Int32).toNatClampNeg (101 : Int32)) (fun h23 => am_gd (am_ix h23 (some h16.1) 1 (6 : Int32) && am_cz (97 : Int32)) (am_lt (am_si h23 (some h16.1) (6 : Int32).toNatClampNeg (97 : Int32)) (fun h24 => am_gd (am_ix h24 (some h16.1) 1 (7 : Int32) && am_cz (114 : Int32)) (am_lt (am_si h24 (some h16.1) (7 : Int32).toNatClampNeg (114 : Int32)) (fun h25 => am_gd (am_ix h25 (some h16.1) 1 (8 : Int32) && am_cz (102 : Int32)) (am_lt (am_si h25 (some h16.1) (8 : Int32).toNatClampNeg (102 : Int32)) (fun h26 => am_gd (am_ix h26 (some h16.1) 1 (9 : Int32) && am_cz (105 : Int32)) (am_lt (am_si h26 (some h16.1) (9 : Int32).toNatClampNeg (105 : Int32)) (fun h27 => am_gd (am_ix h27 (some h16.1) 1 (10 : Int32) && am_cz (110 : Int32)) (am_lt (am_si h27 (some h16.1) (10 : Int32).toNatClampNeg (110 : Int32)) (fun h28 => am_gd (am_ix h28 (some h16.1) 1 (11 : Int32) && am_cz (101 : Int32)) (am_lt (am_si h28 (some h16.1) (11 : Int32).toNatClampNeg (101 : Int32)) (fun h29 => am_gd (am_ob h29 l0 10) (am_lt (am_sr h29 l0 16 (some h16.1)) (fun h30 => am_lt (am_nw h30 (.inl (0, 4))) (fun h31 => am_gd (am_ix h31 (some h30.1) 0 (0 : Int32)) (am_lt (am_si h31 (some h30.1) (0 : Int32).toNatClampNeg (0 : Int32)) (fun h32 => am_gd (am_ix h32 (some h30.1) 0 (1 : Int32)) (am_lt (am_si h32 (some h30.1) (1 : Int32).toNatClampNeg (4 : Int32)) (fun h33 => am_gd (am_ix h33 (some h30.1) 0 (2 : Int32)) (am_lt (am_si h33 (some h30.1) (2 : Int32).toNatClampNeg (8 : Int32)) (fun h34 => am_gd (am_ix h34 (some h30.1) 0 (3 : Int32)) (am_lt (am_si h34 (some h30.1) (3 : Int32).toNatClampNeg (12 : Int32)) (fun h35 => am_gd (am_ob h35 l0 10) (am_lt (am_sr h35 l0 17 (some h30.1)) (fun h36 => am_lt (am_nw h36 (.inl (0, 96))) (fun h37 => am_gd (am_ob h37 l0 10) (am_lt (am_sr h37 l0 18 (some h36.1)) (fun h38 => am_lt (am_nw h38 (.inl (0, 96))) (fun h39 => am_gd (am_ob h39 l0 10) (am_lt (am_sr h39 l0 21 (some h38.1)) (fun h40 => am_lt (am_nw h40 (.inl (2, 10))) (fun h41 => am_gd (am_ob h41 l0 10) (am_lt (am_sr h41 l0 23 (some h40.1)) (fun h42 => am_lt (am_nw h42 (.inl (0, 96))) (fun h43 => am_gd (am_ob h43 l0 10) (am_lt (am_sr h43 l0 24 (some h42.1)) (fun h44 => am_lt (am_nw h44 (.inl (0, 4))) (fun h45 => am_gd (am_ob h45 l0 10) (am_lt (am_sr h45 l0 25 (some h44.1)) (fun h46 => am_lt (am_nw h46 (.inl (0, 4))) (fun h47 => am_gd (am_ix h47 (some h46.1) 0 (0 : Int32)) (am_lt (am_si h47 (some h46.1) (0 : Int32).toNatClampNeg (-1 : Int32)) (fun h48 => am_gd (am_ix h48 (some h46.1) 0 (1 : Int32)) (am_lt (am_si h48 (some h46.1) (1 : Int32).toNatClampNeg (-1 : Int32)) (fun h49 => am_gd (am_ix h49 (some h46.1) 0 (2 : Int32)) (am_lt (am_si h49 (some h46.1) (2 : Int32).toNatClampNeg (-1 : Int32)) (fun h50 => am_gd (am_ix h50 (some h46.1) 0 (3 : Int32)) (am_lt (am_si h50 (some h46.1) (3 : Int32).toNatClampNeg (-1 : Int32)) (fun h51 => am_gd (am_ob h51 l0 10) (am_lt (am_sr h51 l0 26 (some h46.1)) (fun h52 => am_lt (am_nw h52 (.inl (0, 4))) (fun h53 => am_gd (am_ob h53 l0 10) (am_lt (am_sr h53 l0 27 (some h52.1)) (fun h54 => am_lt (am_nw h54 (.inl (0, 96))) (fun h55 => am_gd (am_ob h55 l0 10) (am_lt (am_sr h55 l0 28 (some h54.1)) (fun h56 => am_lt (am_nw h56 (.inl (0, 5))) (fun h57 => am_gd (am_ob h57 l0 10) (am_lt (am_sr h57 l0 29 (some h56.1)) (fun h58 => am_lt (am_nw h58 (.inl (0, 5))) (fun h59 => am_gd (am_ob h59 l0 10) (am_lt (am_sr h59 l0 30 (some h58.1)) (fun h60 => am_lt (am_nw h60 (.inl (0, 5))) (fun h61 => am_gd (am_ob h61 l0 10) (am_lt (am_sr h61 l0 31 (some h60.1)) (fun h62 => am_lt (am_nw h62 (.inl (0, 120))) (fun h63 => am_gd (am_ob h63 l0 10) (am_lt (am_sr h63 l0 32 (some h62.1)) (fun h64 => am_lt (am_nw h64 (.inl (0, 24))) (fun h65 => am_gd (am_ob h65 l0 10) (am_lt (am_sr h65 l0 33 (some h64.1)) (fun h66 => am_lt (am_nw h66 (.inl (0, 60))) (fun h67 => am_gd (am_ob h67 l0 10) (am_lt (am_sr h67 l0 34 (some h66.1)) (fun h68 => am_gd (am_ob h68 l0 10) (am_gd (am_ix h68 (am_gr h68 l0 0) 0 (0 : Int32)) (am_lt (am_si h68 (am_gr h68 l0 0) (0 : Int32).toNatClampNeg (1 : Int32)) (fun h69 => am_gd (am_ob h69 l0 10) (am_gd (am_ix h69 (am_gr h69 l0 0) 0 (3 : Int32)) (am_lt (am_si h69 (am_gr h69 l0 0) (3 : Int32).toNatClampNeg (5 : Int32)) (fun h70 => some ((), h70))))))))))))))))))))))))))))))))))))))))))))))))))))))))))))))))))))))))))))))))))))))))))))))))))))))))))))))))))))))))
set_option maxRecDepth 100000 in
theorem sxX10_init {xs : List Int32} (l0 : Option Nat) (h : am_H) : am_Sm xs am_cu mX10_init 1 24 6306 0 [some (am_R l0)] [] h (fxX10_init l0 h) := by
  unfold fxX10_init
  refine am_aload_n dX10_init_0 rfl ?_
  refine am_objInit dX10_init_1 wd941 wd25 wd26 (by decide) (Nat.le_of_ble_eq_true rfl) ?_
  refine am_aload_n dX10_init_4 rfl ?_
  refine am_sipush (v := 1448) dX10_init_5 (by decide) ?_
  refine am_newI (N := 1448) (rc' := 23) (rs' := 4858) dX10_init_8 wd108 (by decide) (by decide) (by decide) (by omega) (by omega) (fun h1 => ?_)
  refine am_putR dX10_init_10 fk_RX10_9 ⟨_, rfl, Or.inr ⟨rfl, rfl, rfl⟩⟩ rfl (fun h2 => ?_)
  refine am_aload_n dX10_init_13 rfl ?_
  refine am_sipush (v := 1448) dX10_init_14 (by decide) ?_
  refine am_newI (N := 1448) (rc' := 22) (rs' := 3410) dX10_init_17 wd108 (by decide) (by decide) (by decide) (by omega) (by omega) (fun h3 => ?_)
  refine am_putR dX10_init_19 fk_RX10_13 ⟨_, rfl, Or.inr ⟨rfl, rfl, rfl⟩⟩ rfl (fun h4 => ?_)
  refine am_aload_n dX10_init_22 rfl ?_
  refine am_sipush (v := 1448) dX10_init_23 (by decide) ?_
  refine am_newI (N := 1448) (rc' := 21) (rs' := 1962) dX10_init_26 wd108 (by decide) (by decide) (by decide) (by omega) (by omega) (fun h5 => ?_)
  refine am_putR dX10_init_28 fk_RX10_16 ⟨_, rfl, Or.inr ⟨rfl, rfl, rfl⟩⟩ rfl (fun h6 => ?_)
  refine am_aload_n dX10_init_31 rfl ?_
  refine am_bipush (v := 100) dX10_init_32 (by decide) ?_
  refine am_newI (N := 100) (rc' := 20) (rs' := 1862) dX10_init_34 wd108 (by decide) (by decide) (by decide) (by omega) (by omega) (fun h7 => ?_)
  refine am_putR dX10_init_36 fk_RX10_19 ⟨_, rfl, Or.inr ⟨rfl, rfl, rfl⟩⟩ rfl (fun h8 => ?_)
  refine am_aload_n dX10_init_39 rfl ?_
  refine am_sipush (v := 1024) dX10_init_40 (by decide) ?_
  refine am_newI (N := 1024) (rc' := 19) (rs' := 838) dX10_init_43 wd108 (by decide) (by decide) (by decide) (by omega) (by omega) (fun h9 => ?_)
  refine am_putR dX10_init_45 fk_RX10_22 ⟨_, rfl, Or.inr ⟨rfl, rfl, rfl⟩⟩ rfl (fun h10 => ?_)
  refine am_aload_n dX10_init_48 rfl ?_
  refine am_bipush (v := 76) dX10_init_49 (by decide) ?_
  refine am_newI (N := 76) (rc' := 18) (rs' := 762) dX10_init_51 wd108 (by decide) (by decide) (by decide) (by omega) (by omega) (fun h11 => ?_)
  refine am_putR dX10_init_53 fk_RX10_25 ⟨_, rfl, Or.inr ⟨rfl, rfl, rfl⟩⟩ rfl (fun h12 => ?_)
  refine am_aload_n dX10_init_56 rfl ?_
  refine am_bipush (v := 25) dX10_init_57 (by decide) ?_
  refine am_newI (N := 25) (rc' := 17) (rs' := 737) dX10_init_59 wd108 (by decide) (by decide) (by decide) (by omega) (by omega) (fun h13 => ?_)
  refine am_putR dX10_init_61 fk_RX10_28 ⟨_, rfl, Or.inr ⟨rfl, rfl, rfl⟩⟩ rfl (fun h14 => ?_)
  refine am_aload_n dX10_init_64 rfl ?_
  refine am_bipush (v := 96) dX10_init_65 (by decide) ?_
  refine am_newI (N := 96) (rc' := 16) (rs' := 641) dX10_init_67 wd108 (by decide) (by decide) (by decide) (by omega) (by omega) (fun h15 => ?_)
  refine am_putR dX10_init_69 fk_RX10_31 ⟨_, rfl, Or.inr ⟨rfl, rfl, rfl⟩⟩ rfl (fun h16 => ?_)
  refine am_aload_n dX10_init_72 rfl ?_
  refine am_bipush (v := 12) dX10_init_73 (by decide) ?_
  refine am_newC (N := 12) (rc' := 15) (rs' := 629) dX10_init_75 wd1051 (by decide) (by decide) (by decide) (by omega) (by omega) (fun h17 => ?_)
  refine am_dup dX10_init_77 ?_
  refine am_iconst (v := 0) dX10_init_78 (by decide) ?_
  refine am_bipush (v := 112) dX10_init_79 (by decide) ?_
  refine am_cast dX10_init_81 (fun h18 => ?_)
  refine am_dup dX10_init_82 ?_
  refine am_iconst (v := 1) dX10_init_83 (by decide) ?_
  refine am_bipush (v := 97) dX10_init_84 (by decide) ?_
  refine am_cast dX10_init_86 (fun h19 => ?_)
  refine am_dup dX10_init_87 ?_
  refine am_iconst (v := 2) dX10_init_88 (by decide) ?_
  refine am_bipush (v := 105) dX10_init_89 (by decide) ?_
  refine am_cast dX10_init_91 (fun h20 => ?_)
  refine am_dup dX10_init_92 ?_
  refine am_iconst (v := 3) dX10_init_93 (by decide) ?_
  refine am_bipush (v := 114) dX10_init_94 (by decide) ?_
  refine am_cast dX10_init_96 (fun h21 => ?_)
  refine am_dup dX10_init_97 ?_
  refine am_iconst (v := 4) dX10_init_98 (by decide) ?_
  refine am_bipush (v := 119) dX10_init_99 (by decide) ?_
  refine am_cast dX10_init_101 (fun h22 => ?_)
  refine am_dup dX10_init_102 ?_
  refine am_iconst (v := 5) dX10_init_103 (by decide) ?_
  refine am_bipush (v := 101) dX10_init_104 (by decide) ?_
  refine am_cast dX10_init_106 (fun h23 => ?_)
  refine am_dup dX10_init_107 ?_
  refine am_bipush (v := 6) dX10_init_108 (by decide) ?_
  refine am_bipush (v := 97) dX10_init_110 (by decide) ?_
  refine am_cast dX10_init_112 (fun h24 => ?_)
  refine am_dup dX10_init_113 ?_
  refine am_bipush (v := 7) dX10_init_114 (by decide) ?_
  refine am_bipush (v := 114) dX10_init_116 (by decide) ?_
  refine am_cast dX10_init_118 (fun h25 => ?_)
  refine am_dup dX10_init_119 ?_
  refine am_bipush (v := 8) dX10_init_120 (by decide) ?_
  refine am_bipush (v := 102) dX10_init_122 (by decide) ?_
  refine am_cast dX10_init_124 (fun h26 => ?_)
  refine am_dup dX10_init_125 ?_
  refine am_bipush (v := 9) dX10_init_126 (by decide) ?_
  refine am_bipush (v := 105) dX10_init_128 (by decide) ?_
  refine am_cast dX10_init_130 (fun h27 => ?_)
  refine am_dup dX10_init_131 ?_
  refine am_bipush (v := 10) dX10_init_132 (by decide) ?_
  refine am_bipush (v := 110) dX10_init_134 (by decide) ?_
  refine am_cast dX10_init_136 (fun h28 => ?_)
  refine am_dup dX10_init_137 ?_
  refine am_bipush (v := 11) dX10_init_138 (by decide) ?_
  refine am_bipush (v := 101) dX10_init_140 (by decide) ?_
  refine am_cast dX10_init_142 (fun h29 => ?_)
  refine am_putR dX10_init_143 fk_RX10_34 ⟨_, rfl, Or.inr ⟨rfl, rfl, rfl⟩⟩ rfl (fun h30 => ?_)
  refine am_aload_n dX10_init_146 rfl ?_
  refine am_iconst (v := 4) dX10_init_147 (by decide) ?_
  refine am_newI (N := 4) (rc' := 14) (rs' := 625) dX10_init_148 wd108 (by decide) (by decide) (by decide) (by omega) (by omega) (fun h31 => ?_)
  refine am_dup dX10_init_150 ?_
  refine am_iconst (v := 0) dX10_init_151 (by decide) ?_
  refine am_iconst (v := 0) dX10_init_152 (by decide) ?_
  refine am_iast dX10_init_153 (fun h32 => ?_)
  refine am_dup dX10_init_154 ?_
  refine am_iconst (v := 1) dX10_init_155 (by decide) ?_
  refine am_iconst (v := 4) dX10_init_156 (by decide) ?_
  refine am_iast dX10_init_157 (fun h33 => ?_)
  refine am_dup dX10_init_158 ?_
  refine am_iconst (v := 2) dX10_init_159 (by decide) ?_
  refine am_bipush (v := 8) dX10_init_160 (by decide) ?_
  refine am_iast dX10_init_162 (fun h34 => ?_)
  refine am_dup dX10_init_163 ?_
  refine am_iconst (v := 3) dX10_init_164 (by decide) ?_
  refine am_bipush (v := 12) dX10_init_165 (by decide) ?_
  refine am_iast dX10_init_167 (fun h35 => ?_)
  refine am_putR dX10_init_168 fk_RX10_38 ⟨_, rfl, Or.inr ⟨rfl, rfl, rfl⟩⟩ rfl (fun h36 => ?_)
  refine am_aload_n dX10_init_171 rfl ?_
  refine am_bipush (v := 96) dX10_init_172 (by decide) ?_
  refine am_newI (N := 96) (rc' := 13) (rs' := 529) dX10_init_174 wd108 (by decide) (by decide) (by decide) (by omega) (by omega) (fun h37 => ?_)
  refine am_putR dX10_init_176 fk_RX10_41 ⟨_, rfl, Or.inr ⟨rfl, rfl, rfl⟩⟩ rfl (fun h38 => ?_)
  refine am_aload_n dX10_init_179 rfl ?_
  refine am_bipush (v := 96) dX10_init_180 (by decide) ?_
  refine am_newI (N := 96) (rc' := 12) (rs' := 433) dX10_init_182 wd108 (by decide) (by decide) (by decide) (by omega) (by omega) (fun h39 => ?_)
  refine am_putR dX10_init_184 fk_RX10_44 ⟨_, rfl, Or.inr ⟨rfl, rfl, rfl⟩⟩ rfl (fun h40 => ?_)
  refine am_aload_n dX10_init_187 rfl ?_
  refine am_bipush (v := 10) dX10_init_188 (by decide) ?_
  refine am_newZ (N := 10) (rc' := 11) (rs' := 423) dX10_init_190 wd1052 (by decide) (by decide) (by decide) (by omega) (by omega) (fun h41 => ?_)
  refine am_putR dX10_init_192 fk_RX10_47 ⟨_, rfl, Or.inr ⟨rfl, rfl, rfl⟩⟩ rfl (fun h42 => ?_)
  refine am_aload_n dX10_init_195 rfl ?_
  refine am_bipush (v := 96) dX10_init_196 (by decide) ?_
  refine am_newI (N := 96) (rc' := 10) (rs' := 327) dX10_init_198 wd108 (by decide) (by decide) (by decide) (by omega) (by omega) (fun h43 => ?_)
  refine am_putR dX10_init_200 fk_RX10_51 ⟨_, rfl, Or.inr ⟨rfl, rfl, rfl⟩⟩ rfl (fun h44 => ?_)
  refine am_aload_n dX10_init_203 rfl ?_
  refine am_iconst (v := 4) dX10_init_204 (by decide) ?_
  refine am_newI (N := 4) (rc' := 9) (rs' := 323) dX10_init_205 wd108 (by decide) (by decide) (by decide) (by omega) (by omega) (fun h45 => ?_)
  refine am_putR dX10_init_207 fk_RX10_54 ⟨_, rfl, Or.inr ⟨rfl, rfl, rfl⟩⟩ rfl (fun h46 => ?_)
  refine am_aload_n dX10_init_210 rfl ?_
  refine am_iconst (v := 4) dX10_init_211 (by decide) ?_
  refine am_newI (N := 4) (rc' := 8) (rs' := 319) dX10_init_212 wd108 (by decide) (by decide) (by decide) (by omega) (by omega) (fun h47 => ?_)
  refine am_dup dX10_init_214 ?_
  refine am_iconst (v := 0) dX10_init_215 (by decide) ?_
  refine am_iconst (v := (-1)) dX10_init_216 (by decide) ?_
  refine am_iast dX10_init_217 (fun h48 => ?_)
  refine am_dup dX10_init_218 ?_
  refine am_iconst (v := 1) dX10_init_219 (by decide) ?_
  refine am_iconst (v := (-1)) dX10_init_220 (by decide) ?_
  refine am_iast dX10_init_221 (fun h49 => ?_)
  refine am_dup dX10_init_222 ?_
  refine am_iconst (v := 2) dX10_init_223 (by decide) ?_
  refine am_iconst (v := (-1)) dX10_init_224 (by decide) ?_
  refine am_iast dX10_init_225 (fun h50 => ?_)
  refine am_dup dX10_init_226 ?_
  refine am_iconst (v := 3) dX10_init_227 (by decide) ?_
  refine am_iconst (v := (-1)) dX10_init_228 (by decide) ?_
  refine am_iast dX10_init_229 (fun h51 => ?_)
  refine am_putR dX10_init_230 fk_RX10_57 ⟨_, rfl, Or.inr ⟨rfl, rfl, rfl⟩⟩ rfl (fun h52 => ?_)
  refine am_aload_n dX10_init_233 rfl ?_
  refine am_iconst (v := 4) dX10_init_234 (by decide) ?_
  refine am_newI (N := 4) (rc' := 7) (rs' := 315) dX10_init_235 wd108 (by decide) (by decide) (by decide) (by omega) (by omega) (fun h53 => ?_)
  refine am_putR dX10_init_237 fk_RX10_60 ⟨_, rfl, Or.inr ⟨rfl, rfl, rfl⟩⟩ rfl (fun h54 => ?_)
  refine am_aload_n dX10_init_240 rfl ?_
  refine am_bipush (v := 96) dX10_init_241 (by decide) ?_
  refine am_newI (N := 96) (rc' := 6) (rs' := 219) dX10_init_243 wd108 (by decide) (by decide) (by decide) (by omega) (by omega) (fun h55 => ?_)
  refine am_putR dX10_init_245 fk_RX10_63 ⟨_, rfl, Or.inr ⟨rfl, rfl, rfl⟩⟩ rfl (fun h56 => ?_)
  refine am_aload_n dX10_init_248 rfl ?_
  refine am_iconst (v := 5) dX10_init_249 (by decide) ?_
  refine am_newI (N := 5) (rc' := 5) (rs' := 214) dX10_init_250 wd108 (by decide) (by decide) (by decide) (by omega) (by omega) (fun h57 => ?_)
  refine am_putR dX10_init_252 fk_RX10_66 ⟨_, rfl, Or.inr ⟨rfl, rfl, rfl⟩⟩ rfl (fun h58 => ?_)
  refine am_aload_n dX10_init_255 rfl ?_
  refine am_iconst (v := 5) dX10_init_256 (by decide) ?_
  refine am_newI (N := 5) (rc' := 4) (rs' := 209) dX10_init_257 wd108 (by decide) (by decide) (by decide) (by omega) (by omega) (fun h59 => ?_)
  refine am_putR dX10_init_259 fk_RX10_69 ⟨_, rfl, Or.inr ⟨rfl, rfl, rfl⟩⟩ rfl (fun h60 => ?_)
  refine am_aload_n dX10_init_262 rfl ?_
  refine am_iconst (v := 5) dX10_init_263 (by decide) ?_
  refine am_newI (N := 5) (rc' := 3) (rs' := 204) dX10_init_264 wd108 (by decide) (by decide) (by decide) (by omega) (by omega) (fun h61 => ?_)
  refine am_putR dX10_init_266 fk_RX10_72 ⟨_, rfl, Or.inr ⟨rfl, rfl, rfl⟩⟩ rfl (fun h62 => ?_)
  refine am_aload_n dX10_init_269 rfl ?_
  refine am_bipush (v := 120) dX10_init_270 (by decide) ?_
  refine am_newI (N := 120) (rc' := 2) (rs' := 84) dX10_init_272 wd108 (by decide) (by decide) (by decide) (by omega) (by omega) (fun h63 => ?_)
  refine am_putR dX10_init_274 fk_RX10_75 ⟨_, rfl, Or.inr ⟨rfl, rfl, rfl⟩⟩ rfl (fun h64 => ?_)
  refine am_aload_n dX10_init_277 rfl ?_
  refine am_bipush (v := 24) dX10_init_278 (by decide) ?_
  refine am_newI (N := 24) (rc' := 1) (rs' := 60) dX10_init_280 wd108 (by decide) (by decide) (by decide) (by omega) (by omega) (fun h65 => ?_)
  refine am_putR dX10_init_282 fk_RX10_78 ⟨_, rfl, Or.inr ⟨rfl, rfl, rfl⟩⟩ rfl (fun h66 => ?_)
  refine am_aload_n dX10_init_285 rfl ?_
  refine am_bipush (v := 60) dX10_init_286 (by decide) ?_
  refine am_newI (N := 60) (rc' := 0) (rs' := 0) dX10_init_288 wd108 (by decide) (by decide) (by decide) (by omega) (by omega) (fun h67 => ?_)
  refine am_putR dX10_init_290 fk_RX10_81 ⟨_, rfl, Or.inr ⟨rfl, rfl, rfl⟩⟩ rfl (fun h68 => ?_)
  refine am_aload_n dX10_init_293 rfl ?_
  refine am_getR dX10_init_294 fk_RX10_9 rfl ?_
  refine am_iconst (v := 0) dX10_init_297 (by decide) ?_
  refine am_iconst (v := 1) dX10_init_298 (by decide) ?_
  refine am_iast dX10_init_299 (fun h69 => ?_)
  refine am_aload_n dX10_init_300 rfl ?_
  refine am_getR dX10_init_301 fk_RX10_9 rfl ?_
  refine am_iconst (v := 3) dX10_init_304 (by decide) ?_
  refine am_iconst (v := 5) dX10_init_305 (by decide) ?_
  refine am_iast dX10_init_306 (fun h70 => ?_)
  exact am_vret dX10_init_307 rfl rfl
theorem txX10_init {xs : List Int32} (l0 : Option Nat) (h : am_H) (a : Unit) (h2 : am_H) (e : fxX10_init l0 h = some (a, h2)) : am_Ct xs mX10_init 1 24 6306 [am_R l0] h (fun v h3 => v = am_cu a ∧ h3 = h2) := am_meth okX10_init (Nat.le_of_ble_eq_true rfl) rfl (sxX10_init l0 h) e
