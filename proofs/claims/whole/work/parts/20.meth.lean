theorem dX10_takesKey_0 : am_at cX10_takesKey 0 (.aload_n 0) 1 1 := by decide +kernel
theorem dX10_takesKey_1 : am_at cX10_takesKey 1 (.getfield 226) 3 4 := by decide +kernel
theorem dX10_takesKey_4 : am_at cX10_takesKey 4 (.iconst 1) 1 5 := by decide +kernel
theorem dX10_takesKey_5 : am_at cX10_takesKey 5 (.if_icmp .eq 5) 3 8 := by decide +kernel
theorem dX10_takesKey_8 : am_at cX10_takesKey 8 (.iconst 0) 1 9 := by decide +kernel
theorem dX10_takesKey_9 : am_at cX10_takesKey 9 (.ireturn) 1 10 := by decide +kernel
theorem dX10_takesKey_10 : am_at cX10_takesKey 10 (.iconst 0) 1 11 := by decide +kernel
theorem dX10_takesKey_11 : am_at cX10_takesKey 11 (.istore_n 1) 1 12 := by decide +kernel
theorem dX10_takesKey_12 : am_at cX10_takesKey 12 (.iload_n 1) 1 13 := by decide +kernel
theorem dX10_takesKey_13 : am_at cX10_takesKey 13 (.iconst 3) 1 14 := by decide +kernel
theorem dX10_takesKey_14 : am_at cX10_takesKey 14 (.if_icmp .ge 113) 3 17 := by decide +kernel
theorem dX10_takesKey_17 : am_at cX10_takesKey 17 (.aload_n 0) 1 18 := by decide +kernel
theorem dX10_takesKey_18 : am_at cX10_takesKey 18 (.getfield 38) 3 21 := by decide +kernel
theorem dX10_takesKey_21 : am_at cX10_takesKey 21 (.iload_n 1) 1 22 := by decide +kernel
theorem dX10_takesKey_22 : am_at cX10_takesKey 22 (.iconst 1) 1 23 := by decide +kernel
theorem dX10_takesKey_23 : am_at cX10_takesKey 23 (.iadd) 1 24 := by decide +kernel
theorem dX10_takesKey_24 : am_at cX10_takesKey 24 (.iaload) 1 25 := by decide +kernel
theorem dX10_takesKey_25 : am_at cX10_takesKey 25 (.aload_n 0) 1 26 := by decide +kernel
theorem dX10_takesKey_26 : am_at cX10_takesKey 26 (.getfield 38) 3 29 := by decide +kernel
theorem dX10_takesKey_29 : am_at cX10_takesKey 29 (.iload_n 1) 1 30 := by decide +kernel
theorem dX10_takesKey_30 : am_at cX10_takesKey 30 (.iaload) 1 31 := by decide +kernel
theorem dX10_takesKey_31 : am_at cX10_takesKey 31 (.isub) 1 32 := by decide +kernel
theorem dX10_takesKey_32 : am_at cX10_takesKey 32 (.istore_n 2) 1 33 := by decide +kernel
theorem dX10_takesKey_33 : am_at cX10_takesKey 33 (.iload_n 2) 1 34 := by decide +kernel
theorem dX10_takesKey_34 : am_at cX10_takesKey 34 (.aload_n 0) 1 35 := by decide +kernel
theorem dX10_takesKey_35 : am_at cX10_takesKey 35 (.getfield 217) 3 38 := by decide +kernel
theorem dX10_takesKey_38 : am_at cX10_takesKey 38 (.aload_n 0) 1 39 := by decide +kernel
theorem dX10_takesKey_39 : am_at cX10_takesKey 39 (.getfield 220) 3 42 := by decide +kernel
theorem dX10_takesKey_42 : am_at cX10_takesKey 42 (.isub) 1 43 := by decide +kernel
theorem dX10_takesKey_43 : am_at cX10_takesKey 43 (.if_icmp .ne 7) 3 46 := by decide +kernel
theorem dX10_takesKey_46 : am_at cX10_takesKey 46 (.iconst 1) 1 47 := by decide +kernel
theorem dX10_takesKey_47 : am_at cX10_takesKey 47 (.goto 4) 3 50 := by decide +kernel
theorem dX10_takesKey_50 : am_at cX10_takesKey 50 (.iconst 0) 1 51 := by decide +kernel
theorem dX10_takesKey_51 : am_at cX10_takesKey 51 (.istore_n 3) 1 52 := by decide +kernel
theorem dX10_takesKey_52 : am_at cX10_takesKey 52 (.iconst 0) 1 53 := by decide +kernel
theorem dX10_takesKey_53 : am_at cX10_takesKey 53 (.istore 4) 2 55 := by decide +kernel
theorem dX10_takesKey_55 : am_at cX10_takesKey 55 (.iload 4) 2 57 := by decide +kernel
theorem dX10_takesKey_57 : am_at cX10_takesKey 57 (.iload_n 2) 1 58 := by decide +kernel
theorem dX10_takesKey_58 : am_at cX10_takesKey 58 (.if_icmp .ge 48) 3 61 := by decide +kernel
theorem dX10_takesKey_61 : am_at cX10_takesKey 61 (.iload_n 3) 1 62 := by decide +kernel
theorem dX10_takesKey_62 : am_at cX10_takesKey 62 (.ifCond .eq 44) 3 65 := by decide +kernel
theorem dX10_takesKey_65 : am_at cX10_takesKey 65 (.aload_n 0) 1 66 := by decide +kernel
theorem dX10_takesKey_66 : am_at cX10_takesKey 66 (.getfield 31) 3 69 := by decide +kernel
theorem dX10_takesKey_69 : am_at cX10_takesKey 69 (.aload_n 0) 1 70 := by decide +kernel
theorem dX10_takesKey_70 : am_at cX10_takesKey 70 (.getfield 220) 3 73 := by decide +kernel
theorem dX10_takesKey_73 : am_at cX10_takesKey 73 (.iload 4) 2 75 := by decide +kernel
theorem dX10_takesKey_75 : am_at cX10_takesKey 75 (.iadd) 1 76 := by decide +kernel
theorem dX10_takesKey_76 : am_at cX10_takesKey 76 (.iaload) 1 77 := by decide +kernel
theorem dX10_takesKey_77 : am_at cX10_takesKey 77 (.aload_n 0) 1 78 := by decide +kernel
theorem dX10_takesKey_78 : am_at cX10_takesKey 78 (.getfield 34) 3 81 := by decide +kernel
theorem dX10_takesKey_81 : am_at cX10_takesKey 81 (.aload_n 0) 1 82 := by decide +kernel
theorem dX10_takesKey_82 : am_at cX10_takesKey 82 (.getfield 38) 3 85 := by decide +kernel
theorem dX10_takesKey_85 : am_at cX10_takesKey 85 (.iload_n 1) 1 86 := by decide +kernel
theorem dX10_takesKey_86 : am_at cX10_takesKey 86 (.iaload) 1 87 := by decide +kernel
theorem dX10_takesKey_87 : am_at cX10_takesKey 87 (.iload 4) 2 89 := by decide +kernel
theorem dX10_takesKey_89 : am_at cX10_takesKey 89 (.iadd) 1 90 := by decide +kernel
theorem dX10_takesKey_90 : am_at cX10_takesKey 90 (.caload) 1 91 := by decide +kernel
theorem dX10_takesKey_91 : am_at cX10_takesKey 91 (.if_icmp .ne 7) 3 94 := by decide +kernel
theorem dX10_takesKey_94 : am_at cX10_takesKey 94 (.iconst 1) 1 95 := by decide +kernel
theorem dX10_takesKey_95 : am_at cX10_takesKey 95 (.goto 4) 3 98 := by decide +kernel
theorem dX10_takesKey_98 : am_at cX10_takesKey 98 (.iconst 0) 1 99 := by decide +kernel
theorem dX10_takesKey_99 : am_at cX10_takesKey 99 (.istore_n 3) 1 100 := by decide +kernel
theorem dX10_takesKey_100 : am_at cX10_takesKey 100 (.iinc 4 1) 3 103 := by decide +kernel
theorem dX10_takesKey_103 : am_at cX10_takesKey 103 (.goto (-48)) 3 106 := by decide +kernel
theorem dX10_takesKey_106 : am_at cX10_takesKey 106 (.iload_n 3) 1 107 := by decide +kernel
theorem dX10_takesKey_107 : am_at cX10_takesKey 107 (.ifCond .eq 14) 3 110 := by decide +kernel
theorem dX10_takesKey_110 : am_at cX10_takesKey 110 (.aload_n 0) 1 111 := by decide +kernel
theorem dX10_takesKey_111 : am_at cX10_takesKey 111 (.iload_n 1) 1 112 := by decide +kernel
theorem dX10_takesKey_112 : am_at cX10_takesKey 112 (.putfield 238) 3 115 := by decide +kernel
theorem dX10_takesKey_115 : am_at cX10_takesKey 115 (.aload_n 0) 1 116 := by decide +kernel
theorem dX10_takesKey_116 : am_at cX10_takesKey 116 (.invokevirtual 241) 3 119 := by decide +kernel
theorem dX10_takesKey_119 : am_at cX10_takesKey 119 (.iconst 1) 1 120 := by decide +kernel
theorem dX10_takesKey_120 : am_at cX10_takesKey 120 (.ireturn) 1 121 := by decide +kernel
theorem dX10_takesKey_121 : am_at cX10_takesKey 121 (.iinc 1 1) 3 124 := by decide +kernel
theorem dX10_takesKey_124 : am_at cX10_takesKey 124 (.goto (-112)) 3 127 := by decide +kernel
theorem dX10_takesKey_127 : am_at cX10_takesKey 127 (.iconst 0) 1 128 := by decide +kernel
theorem dX10_takesKey_128 : am_at cX10_takesKey 128 (.ireturn) 1 129 := by decide +kernel
def fxX10_takesKey_b99 (k12 : Option Nat → Int32 → am_H → Option (Int32 × am_H)) (k55 : Option Nat → Int32 → Int32 → Int32 → Int32 → am_H → Option (Int32 × am_H)) (l0 : Option Nat) (l1 : Int32) (l2 : Int32) (l4 : Int32) (s0 : Int32) (h : am_H) : Option (Int32 × am_H) := am_lt s0 (fun x15 => am_lt (l4 + 1) (fun x16 => k55 l0 l1 l2 x15 x16 h))
set_option maxRecDepth 100000 in
theorem sxX10_takesKey_b99 {xs : List Int32} (k12 : Option Nat → Int32 → am_H → Option (Int32 × am_H)) (hk12 : ∀ (l0 : Option Nat) (l1 : Int32) (h : am_H), am_Sm xs am_ci mX10_takesKey 2 0 0 12 [some (am_R l0), some (am_I l1), none, none, none] [] h (k12 l0 l1 h)) (k55 : Option Nat → Int32 → Int32 → Int32 → Int32 → am_H → Option (Int32 × am_H)) (hk55 : ∀ (l0 : Option Nat) (l1 : Int32) (l2 : Int32) (l3 : Int32) (l4 : Int32) (h : am_H), am_Sm xs am_ci mX10_takesKey 2 0 0 55 [some (am_R l0), some (am_I l1), some (am_I l2), some (am_I l3), some (am_I l4)] [] h (k55 l0 l1 l2 l3 l4 h)) (l0 : Option Nat) (l1 : Int32) (l2 : Int32) (l4 : Int32) (s0 : Int32) (h : am_H) : am_Sm xs am_ci mX10_takesKey 2 0 0 99 [some (am_R l0), some (am_I l1), some (am_I l2), none, some (am_I l4)] [am_I s0] h (fxX10_takesKey_b99 k12 k55 l0 l1 l2 l4 s0 h) := by
  unfold fxX10_takesKey_b99
  refine am_istore_n (LL := fun y9 => [some (am_R l0), some (am_I l1), some (am_I l2), some (am_I y9), some (am_I l4)]) dX10_takesKey_99 (by decide) (fun _ => rfl) (fun x15 => ?_)
  refine am_iinc (v := 1) (LL := fun y9 => [some (am_R l0), some (am_I l1), some (am_I l2), some (am_I x15), some (am_I y9)]) dX10_takesKey_100 (by decide) rfl (by decide) (fun _ => rfl) (fun x16 => ?_)
  refine am_goto (tgt := 55) dX10_takesKey_103 (by decide) ?_
  exact am_weak (hk55 l0 l1 l2 x15 x16 h) ⟨rfl, ⟨rfl, ⟨rfl, ⟨rfl, ⟨rfl, trivial⟩⟩⟩⟩⟩ (Nat.le_refl _) (Nat.le_refl _)
def fxX10_takesKey_b106 (k12 : Option Nat → Int32 → am_H → Option (Int32 × am_H)) (l0 : Option Nat) (l1 : Int32) (l3 : Int32) (h : am_H) : Option (Int32 × am_H) := if l3 = 0 then (am_lt (l1 + 1) (fun x11 => k12 l0 x11 h)) else (am_gd (am_ob h l0 10) (am_lt (am_si h l0 15 l1) (fun h12 => am_gd (am_ob h12 l0 10) (am_bd (fxX10_go l0 h12) (fun _ h13 => am_gd (am_bz (1 : Int32)) (some ((1 : Int32), h13)))))))
set_option maxRecDepth 100000 in
theorem sxX10_takesKey_b106 {xs : List Int32} (k12 : Option Nat → Int32 → am_H → Option (Int32 × am_H)) (hk12 : ∀ (l0 : Option Nat) (l1 : Int32) (h : am_H), am_Sm xs am_ci mX10_takesKey 2 0 0 12 [some (am_R l0), some (am_I l1), none, none, none] [] h (k12 l0 l1 h)) (l0 : Option Nat) (l1 : Int32) (l3 : Int32) (h : am_H) : am_Sm xs am_ci mX10_takesKey 2 0 0 106 [some (am_R l0), some (am_I l1), none, some (am_I l3), none] [] h (fxX10_takesKey_b106 k12 l0 l1 l3 h) := by
  unfold fxX10_takesKey_b106
  refine am_iload_n dX10_takesKey_106 rfl ?_
  refine am_if_eq (tgt := 121) dX10_takesKey_107 (by decide) (fun c14 => ?_) (fun c14 => ?_)
  · refine am_iinc (v := 1) (LL := fun y9 => [some (am_R l0), some (am_I y9), none, some (am_I l3), none]) dX10_takesKey_121 (by decide) rfl (by decide) (fun _ => rfl) (fun x11 => ?_)
    refine am_goto (tgt := 12) dX10_takesKey_124 (by decide) ?_
    exact am_weak (hk12 l0 x11 h) ⟨rfl, ⟨rfl, trivial⟩⟩ (Nat.le_refl _) (Nat.le_refl _)
  refine am_aload_n dX10_takesKey_110 rfl ?_
  refine am_iload_n dX10_takesKey_111 rfl ?_
  refine am_putI dX10_takesKey_112 fk_RX10_238 ⟨_, rfl, Or.inl rfl⟩ rfl (fun h12 => ?_)
  refine am_aload_n dX10_takesKey_115 rfl ?_
  refine am_callV (cvj := am_cu) (mtj := mX10_go) (dj := 1) (nj := 0) (rcj := 0) (rsj := 0) (rc' := 0) (rs' := 0) (ci := 10) (st' := fun _ => []) ⟨_, rfl, rfl⟩ [] [] dX10_takesKey_116 okX10_go lk_RX10_241 (fun zA zH zE => txX10_go l0 h12 zA zH zE) rfl (fun _ => rfl) (by decide) rfl (Nat.le_of_ble_eq_true rfl) (by decide) (by decide) (fun _ h13 => ?_)
  refine am_iconst (v := 1) dX10_takesKey_119 (by decide) ?_
  exact am_zret dX10_takesKey_120 rfl rfl
def fxX10_takesKey_b55 (k12 : Option Nat → Int32 → am_H → Option (Int32 × am_H)) : Nat → Option Nat → Int32 → Int32 → Int32 → Int32 → am_H → Option (Int32 × am_H)
  | 0, _, _, _, _, _, _ => none
  | n + 1, l0, l1, l2, l3, l4, h => if l2 ≤ l4 then (fxX10_takesKey_b106 k12 l0 l1 l3 h) else (if l3 = 0 then (fxX10_takesKey_b106 k12 l0 l1 l3 h) else (am_gd (am_ob h l0 10) (am_gd (am_ob h l0 10) (am_gd (am_ix h (am_gr h l0 8) 0 ((am_gi h l0 11) + l4)) (am_gd (am_ob h l0 10) (am_gd (am_ob h l0 10) (am_gd (am_ix h (am_gr h l0 17) 0 l1) (am_gd (am_ix h (am_gr h l0 16) 1 ((am_gi h (am_gr h l0 17) l1.toNatClampNeg) + l4)) (if (am_gi h (am_gr h l0 8) ((am_gi h l0 11) + l4).toNatClampNeg) = (am_gi h (am_gr h l0 16) ((am_gi h (am_gr h l0 17) l1.toNatClampNeg) + l4).toNatClampNeg) then (fxX10_takesKey_b99 k12 (fxX10_takesKey_b55 k12 n) l0 l1 l2 l4 (1 : Int32) h) else (fxX10_takesKey_b99 k12 (fxX10_takesKey_b55 k12 n) l0 l1 l2 l4 (0 : Int32) h))))))))))
set_option maxRecDepth 100000 in
theorem sxX10_takesKey_b55 {xs : List Int32} (k12 : Option Nat → Int32 → am_H → Option (Int32 × am_H)) (hk12 : ∀ (l0 : Option Nat) (l1 : Int32) (h : am_H), am_Sm xs am_ci mX10_takesKey 2 0 0 12 [some (am_R l0), some (am_I l1), none, none, none] [] h (k12 l0 l1 h)) : ∀ (n : Nat) (l0 : Option Nat) (l1 : Int32) (l2 : Int32) (l3 : Int32) (l4 : Int32) (h : am_H), am_Sm xs am_ci mX10_takesKey 2 0 0 55 [some (am_R l0), some (am_I l1), some (am_I l2), some (am_I l3), some (am_I l4)] [] h (fxX10_takesKey_b55 k12 n l0 l1 l2 l3 l4 h) := by
  intro n
  induction n with
  | zero => intros; exact am_none
  | succ n ih =>
    intro l0 l1 l2 l3 l4 h
    rw [fxX10_takesKey_b55]
    refine am_iload dX10_takesKey_55 rfl ?_
    refine am_iload_n dX10_takesKey_57 rfl ?_
    refine am_icmp_ge (tgt := 106) dX10_takesKey_58 (by decide) (fun c10 => ?_) (fun c10 => ?_)
    · exact am_weak (sxX10_takesKey_b106 k12 hk12 l0 l1 l3 h) ⟨rfl, ⟨rfl, ⟨rfl, trivial⟩⟩⟩ (Nat.le_refl _) (Nat.le_refl _)
    refine am_iload_n dX10_takesKey_61 rfl ?_
    refine am_if_eq (tgt := 106) dX10_takesKey_62 (by decide) (fun c9 => ?_) (fun c9 => ?_)
    · exact am_weak (sxX10_takesKey_b106 k12 hk12 l0 l1 l3 h) ⟨rfl, ⟨rfl, ⟨rfl, trivial⟩⟩⟩ (Nat.le_refl _) (Nat.le_refl _)
    refine am_aload_n dX10_takesKey_65 rfl ?_
    refine am_getR dX10_takesKey_66 fk_RX10_31 rfl ?_
    refine am_aload_n dX10_takesKey_69 rfl ?_
    refine am_getI dX10_takesKey_70 fk_RX10_220 rfl ?_
    refine am_iload dX10_takesKey_73 rfl ?_
    refine am_iadd dX10_takesKey_75 ?_
    refine am_iald dX10_takesKey_76 ?_
    refine am_aload_n dX10_takesKey_77 rfl ?_
    refine am_getR dX10_takesKey_78 fk_RX10_34 rfl ?_
    refine am_aload_n dX10_takesKey_81 rfl ?_
    refine am_getR dX10_takesKey_82 fk_RX10_38 rfl ?_
    refine am_iload_n dX10_takesKey_85 rfl ?_
    refine am_iald dX10_takesKey_86 ?_
    refine am_iload dX10_takesKey_87 rfl ?_
    refine am_iadd dX10_takesKey_89 ?_
    refine am_cald dX10_takesKey_90 ?_
    refine am_icmp_ne (tgt := 98) dX10_takesKey_91 (by decide) (fun c8 => ?_) (fun c8 => ?_)
    · refine am_iconst (v := 0) dX10_takesKey_98 (by decide) ?_
      exact am_weak (sxX10_takesKey_b99 k12 hk12 (fxX10_takesKey_b55 k12 n) ih l0 l1 l2 l4 (0 : Int32) h) ⟨rfl, ⟨rfl, ⟨rfl, ⟨rfl, trivial⟩⟩⟩⟩ (Nat.le_refl _) (Nat.le_refl _)
    refine am_iconst (v := 1) dX10_takesKey_94 (by decide) ?_
    refine am_goto (tgt := 99) dX10_takesKey_95 (by decide) ?_
    exact am_weak (sxX10_takesKey_b99 k12 hk12 (fxX10_takesKey_b55 k12 n) ih l0 l1 l2 l4 (1 : Int32) h) ⟨rfl, ⟨rfl, ⟨rfl, ⟨rfl, trivial⟩⟩⟩⟩ (Nat.le_refl _) (Nat.le_refl _)
def fxX10_takesKey_b51 (k12 : Option Nat → Int32 → am_H → Option (Int32 × am_H)) (l0 : Option Nat) (l1 : Int32) (l2 : Int32) (s0 : Int32) (h : am_H) : Option (Int32 × am_H) := am_lt s0 (fun x6 => am_lt (0 : Int32) (fun x7 => fxX10_takesKey_b55 k12 am_F l0 l1 l2 x6 x7 h))
set_option maxRecDepth 100000 in
theorem sxX10_takesKey_b51 {xs : List Int32} (k12 : Option Nat → Int32 → am_H → Option (Int32 × am_H)) (hk12 : ∀ (l0 : Option Nat) (l1 : Int32) (h : am_H), am_Sm xs am_ci mX10_takesKey 2 0 0 12 [some (am_R l0), some (am_I l1), none, none, none] [] h (k12 l0 l1 h)) (l0 : Option Nat) (l1 : Int32) (l2 : Int32) (s0 : Int32) (h : am_H) : am_Sm xs am_ci mX10_takesKey 2 0 0 51 [some (am_R l0), some (am_I l1), some (am_I l2), none, none] [am_I s0] h (fxX10_takesKey_b51 k12 l0 l1 l2 s0 h) := by
  unfold fxX10_takesKey_b51
  refine am_istore_n (LL := fun y9 => [some (am_R l0), some (am_I l1), some (am_I l2), some (am_I y9), none]) dX10_takesKey_51 (by decide) (fun _ => rfl) (fun x6 => ?_)
  refine am_iconst (v := 0) dX10_takesKey_52 (by decide) ?_
  refine am_istore (LL := fun y9 => [some (am_R l0), some (am_I l1), some (am_I l2), some (am_I x6), some (am_I y9)]) dX10_takesKey_53 (by decide) (fun _ => rfl) (fun x7 => ?_)
  exact am_weak (sxX10_takesKey_b55 k12 hk12 am_F l0 l1 l2 x6 x7 h) ⟨rfl, ⟨rfl, ⟨rfl, ⟨rfl, ⟨rfl, trivial⟩⟩⟩⟩⟩ (Nat.le_refl _) (Nat.le_refl _)
def fxX10_takesKey_b12 : Nat → Option Nat → Int32 → am_H → Option (Int32 × am_H)
  | 0, _, _, _ => none
  | n + 1, l0, l1, h => if (3 : Int32) ≤ l1 then (am_gd (am_bz (0 : Int32)) (some ((0 : Int32), h))) else (am_gd (am_ob h l0 10) (am_gd (am_ix h (am_gr h l0 17) 0 (l1 + (1 : Int32))) (am_gd (am_ob h l0 10) (am_gd (am_ix h (am_gr h l0 17) 0 l1) (am_lt ((am_gi h (am_gr h l0 17) (l1 + (1 : Int32)).toNatClampNeg) - (am_gi h (am_gr h l0 17) l1.toNatClampNeg)) (fun x3 => am_gd (am_ob h l0 10) (am_gd (am_ob h l0 10) (if x3 = ((am_gi h l0 10) - (am_gi h l0 11)) then (fxX10_takesKey_b51 (fxX10_takesKey_b12 n) l0 l1 x3 (1 : Int32) h) else (fxX10_takesKey_b51 (fxX10_takesKey_b12 n) l0 l1 x3 (0 : Int32) h)))))))))
set_option maxRecDepth 100000 in
theorem sxX10_takesKey_b12 {xs : List Int32} : ∀ (n : Nat) (l0 : Option Nat) (l1 : Int32) (h : am_H), am_Sm xs am_ci mX10_takesKey 2 0 0 12 [some (am_R l0), some (am_I l1), none, none, none] [] h (fxX10_takesKey_b12 n l0 l1 h) := by
  intro n
  induction n with
  | zero => intros; exact am_none
  | succ n ih =>
    intro l0 l1 h
    rw [fxX10_takesKey_b12]
    refine am_iload_n dX10_takesKey_12 rfl ?_
    refine am_iconst (v := 3) dX10_takesKey_13 (by decide) ?_
    refine am_icmp_ge (tgt := 127) dX10_takesKey_14 (by decide) (fun c5 => ?_) (fun c5 => ?_)
    · refine am_iconst (v := 0) dX10_takesKey_127 (by decide) ?_
      exact am_zret dX10_takesKey_128 rfl rfl
    refine am_aload_n dX10_takesKey_17 rfl ?_
    refine am_getR dX10_takesKey_18 fk_RX10_38 rfl ?_
    refine am_iload_n dX10_takesKey_21 rfl ?_
    refine am_iconst (v := 1) dX10_takesKey_22 (by decide) ?_
    refine am_iadd dX10_takesKey_23 ?_
    refine am_iald dX10_takesKey_24 ?_
    refine am_aload_n dX10_takesKey_25 rfl ?_
    refine am_getR dX10_takesKey_26 fk_RX10_38 rfl ?_
    refine am_iload_n dX10_takesKey_29 rfl ?_
    refine am_iald dX10_takesKey_30 ?_
    refine am_isub dX10_takesKey_31 ?_
    refine am_istore_n (LL := fun y9 => [some (am_R l0), some (am_I l1), some (am_I y9), none, none]) dX10_takesKey_32 (by decide) (fun _ => rfl) (fun x3 => ?_)
    refine am_iload_n dX10_takesKey_33 rfl ?_
    refine am_aload_n dX10_takesKey_34 rfl ?_
    refine am_getI dX10_takesKey_35 fk_RX10_217 rfl ?_
    refine am_aload_n dX10_takesKey_38 rfl ?_
    refine am_getI dX10_takesKey_39 fk_RX10_220 rfl ?_
    refine am_isub dX10_takesKey_42 ?_
    refine am_icmp_ne (tgt := 50) dX10_takesKey_43 (by decide) (fun c4 => ?_) (fun c4 => ?_)
    · refine am_iconst (v := 0) dX10_takesKey_50 (by decide) ?_
      exact am_weak (sxX10_takesKey_b51 (fxX10_takesKey_b12 n) ih l0 l1 x3 (0 : Int32) h) ⟨rfl, ⟨rfl, ⟨rfl, trivial⟩⟩⟩ (Nat.le_refl _) (Nat.le_refl _)
    refine am_iconst (v := 1) dX10_takesKey_46 (by decide) ?_
    refine am_goto (tgt := 51) dX10_takesKey_47 (by decide) ?_
    exact am_weak (sxX10_takesKey_b51 (fxX10_takesKey_b12 n) ih l0 l1 x3 (1 : Int32) h) ⟨rfl, ⟨rfl, ⟨rfl, trivial⟩⟩⟩ (Nat.le_refl _) (Nat.le_refl _)
def fxX10_takesKey (l0 : Option Nat) (h : am_H) : Option (Int32 × am_H) := am_gd (am_ob h l0 10) (if (am_gi h l0 12) = (1 : Int32) then (am_lt (0 : Int32) (fun x1 => fxX10_takesKey_b12 am_F l0 x1 h)) else (am_gd (am_bz (0 : Int32)) (some ((0 : Int32), h))))
set_option maxRecDepth 100000 in
theorem sxX10_takesKey {xs : List Int32} (l0 : Option Nat) (h : am_H) : am_Sm xs am_ci mX10_takesKey 2 0 0 0 [some (am_R l0), none, none, none, none] [] h (fxX10_takesKey l0 h) := by
  unfold fxX10_takesKey
  refine am_aload_n dX10_takesKey_0 rfl ?_
  refine am_getI dX10_takesKey_1 fk_RX10_226 rfl ?_
  refine am_iconst (v := 1) dX10_takesKey_4 (by decide) ?_
  refine am_icmp_eq (tgt := 10) dX10_takesKey_5 (by decide) (fun c2 => ?_) (fun c2 => ?_)
  · refine am_iconst (v := 0) dX10_takesKey_10 (by decide) ?_
    refine am_istore_n (LL := fun y9 => [some (am_R l0), some (am_I y9), none, none, none]) dX10_takesKey_11 (by decide) (fun _ => rfl) (fun x1 => ?_)
    exact am_weak (sxX10_takesKey_b12 am_F l0 x1 h) ⟨rfl, ⟨rfl, trivial⟩⟩ (Nat.le_refl _) (Nat.le_refl _)
  refine am_iconst (v := 0) dX10_takesKey_8 (by decide) ?_
  exact am_zret dX10_takesKey_9 rfl rfl
theorem txX10_takesKey {xs : List Int32} (l0 : Option Nat) (h : am_H) (a : Int32) (h2 : am_H) (e : fxX10_takesKey l0 h = some (a, h2)) : am_Ct xs mX10_takesKey 2 0 0 [am_R l0] h (fun v h3 => v = am_ci a ∧ h3 = h2) := am_meth okX10_takesKey (Nat.le_of_ble_eq_true rfl) rfl (sxX10_takesKey l0 h) e
theorem dX10_nameOf_0 : am_at cX10_nameOf 0 (.aload_n 0) 1 1 := by decide +kernel
theorem dX10_nameOf_1 : am_at cX10_nameOf 1 (.getfield 238) 3 4 := by decide +kernel
theorem dX10_nameOf_4 : am_at cX10_nameOf 4 (.lookupswitch 82 #[(0, 28), (1, 60)]) 28 32 := by decide +kernel
theorem dX10_nameOf_32 : am_at cX10_nameOf 32 (.iload_n 1) 1 33 := by decide +kernel
theorem dX10_nameOf_33 : am_at cX10_nameOf 33 (.bipush 97) 2 35 := by decide +kernel
theorem dX10_nameOf_35 : am_at cX10_nameOf 35 (.if_icmp .ne 7) 3 38 := by decide +kernel
theorem dX10_nameOf_38 : am_at cX10_nameOf 38 (.iconst 0) 1 39 := by decide +kernel
theorem dX10_nameOf_39 : am_at cX10_nameOf 39 (.goto 24) 3 42 := by decide +kernel
theorem dX10_nameOf_42 : am_at cX10_nameOf 42 (.iload_n 1) 1 43 := by decide +kernel
theorem dX10_nameOf_43 : am_at cX10_nameOf 43 (.bipush 98) 2 45 := by decide +kernel
theorem dX10_nameOf_45 : am_at cX10_nameOf 45 (.if_icmp .ne 7) 3 48 := by decide +kernel
theorem dX10_nameOf_48 : am_at cX10_nameOf 48 (.iconst 1) 1 49 := by decide +kernel
theorem dX10_nameOf_49 : am_at cX10_nameOf 49 (.goto 14) 3 52 := by decide +kernel
theorem dX10_nameOf_52 : am_at cX10_nameOf 52 (.iload_n 1) 1 53 := by decide +kernel
theorem dX10_nameOf_53 : am_at cX10_nameOf 53 (.bipush 119) 2 55 := by decide +kernel
theorem dX10_nameOf_55 : am_at cX10_nameOf 55 (.if_icmp .ne 7) 3 58 := by decide +kernel
theorem dX10_nameOf_58 : am_at cX10_nameOf 58 (.iconst 2) 1 59 := by decide +kernel
theorem dX10_nameOf_59 : am_at cX10_nameOf 59 (.goto 4) 3 62 := by decide +kernel
theorem dX10_nameOf_62 : am_at cX10_nameOf 62 (.iconst (-1)) 1 63 := by decide +kernel
theorem dX10_nameOf_63 : am_at cX10_nameOf 63 (.ireturn) 1 64 := by decide +kernel
theorem dX10_nameOf_64 : am_at cX10_nameOf 64 (.iload_n 1) 1 65 := by decide +kernel
theorem dX10_nameOf_65 : am_at cX10_nameOf 65 (.bipush 120) 2 67 := by decide +kernel
theorem dX10_nameOf_67 : am_at cX10_nameOf 67 (.if_icmp .ne 7) 3 70 := by decide +kernel
theorem dX10_nameOf_70 : am_at cX10_nameOf 70 (.iconst 0) 1 71 := by decide +kernel
theorem dX10_nameOf_71 : am_at cX10_nameOf 71 (.goto 14) 3 74 := by decide +kernel
theorem dX10_nameOf_74 : am_at cX10_nameOf 74 (.iload_n 1) 1 75 := by decide +kernel
theorem dX10_nameOf_75 : am_at cX10_nameOf 75 (.bipush 112) 2 77 := by decide +kernel
theorem dX10_nameOf_77 : am_at cX10_nameOf 77 (.if_icmp .ne 7) 3 80 := by decide +kernel
theorem dX10_nameOf_80 : am_at cX10_nameOf 80 (.iconst 1) 1 81 := by decide +kernel
theorem dX10_nameOf_81 : am_at cX10_nameOf 81 (.goto 4) 3 84 := by decide +kernel
theorem dX10_nameOf_84 : am_at cX10_nameOf 84 (.iconst (-1)) 1 85 := by decide +kernel
theorem dX10_nameOf_85 : am_at cX10_nameOf 85 (.ireturn) 1 86 := by decide +kernel
theorem dX10_nameOf_86 : am_at cX10_nameOf 86 (.iload_n 1) 1 87 := by decide +kernel
theorem dX10_nameOf_87 : am_at cX10_nameOf 87 (.bipush 100) 2 89 := by decide +kernel
theorem dX10_nameOf_89 : am_at cX10_nameOf 89 (.if_icmp .ne 7) 3 92 := by decide +kernel
theorem dX10_nameOf_92 : am_at cX10_nameOf 92 (.iconst 0) 1 93 := by decide +kernel
theorem dX10_nameOf_93 : am_at cX10_nameOf 93 (.goto 14) 3 96 := by decide +kernel
theorem dX10_nameOf_96 : am_at cX10_nameOf 96 (.iload_n 1) 1 97 := by decide +kernel
theorem dX10_nameOf_97 : am_at cX10_nameOf 97 (.bipush 108) 2 99 := by decide +kernel
theorem dX10_nameOf_99 : am_at cX10_nameOf 99 (.if_icmp .ne 7) 3 102 := by decide +kernel
theorem dX10_nameOf_102 : am_at cX10_nameOf 102 (.iconst 1) 1 103 := by decide +kernel
theorem dX10_nameOf_103 : am_at cX10_nameOf 103 (.goto 4) 3 106 := by decide +kernel
theorem dX10_nameOf_106 : am_at cX10_nameOf 106 (.iconst (-1)) 1 107 := by decide +kernel
theorem dX10_nameOf_107 : am_at cX10_nameOf 107 (.ireturn) 1 108 := by decide +kernel
def fxX10_nameOf (l0 : Option Nat) (l1 : Int32) (h : am_H) : Option (Int32 × am_H) := am_gd (am_ob h l0 10) (if (am_gi h l0 15) = 0 then (if l1 = (97 : Int32) then (some ((0 : Int32), h)) else (if l1 = (98 : Int32) then (some ((1 : Int32), h)) else (if l1 = (119 : Int32) then (some ((2 : Int32), h)) else (some ((-1 : Int32), h))))) else (if (am_gi h l0 15) = 1 then (if l1 = (120 : Int32) then (some ((0 : Int32), h)) else (if l1 = (112 : Int32) then (some ((1 : Int32), h)) else (some ((-1 : Int32), h)))) else (if l1 = (100 : Int32) then (some ((0 : Int32), h)) else (if l1 = (108 : Int32) then (some ((1 : Int32), h)) else (some ((-1 : Int32), h))))))
set_option maxRecDepth 100000 in
theorem sxX10_nameOf {xs : List Int32} (l0 : Option Nat) (l1 : Int32) (h : am_H) : am_Sm xs am_ci mX10_nameOf 0 0 0 0 [some (am_R l0), some (am_I l1)] [] h (fxX10_nameOf l0 l1 h) := by
  unfold fxX10_nameOf
  refine am_aload_n dX10_nameOf_0 rfl ?_
  refine am_getI dX10_nameOf_1 fk_RX10_238 rfl ?_
  refine am_lookup (cs := [(0, 32), (1, 64)]) (dt := 86) dX10_nameOf_4 (by decide +kernel) ?_
  refine am_sw_cons (fun c4 => ?_) (fun c4 => ?_)
  · refine am_iload_n dX10_nameOf_32 rfl ?_
    refine am_bipush (v := 97) dX10_nameOf_33 (by decide) ?_
    refine am_icmp_ne (tgt := 42) dX10_nameOf_35 (by decide) (fun c3 => ?_) (fun c3 => ?_)
    · refine am_iload_n dX10_nameOf_42 rfl ?_
      refine am_bipush (v := 98) dX10_nameOf_43 (by decide) ?_
      refine am_icmp_ne (tgt := 52) dX10_nameOf_45 (by decide) (fun c2 => ?_) (fun c2 => ?_)
      · refine am_iload_n dX10_nameOf_52 rfl ?_
        refine am_bipush (v := 119) dX10_nameOf_53 (by decide) ?_
        refine am_icmp_ne (tgt := 62) dX10_nameOf_55 (by decide) (fun c1 => ?_) (fun c1 => ?_)
        · refine am_iconst (v := (-1)) dX10_nameOf_62 (by decide) ?_
          exact am_iret dX10_nameOf_63 rfl rfl
        refine am_iconst (v := 2) dX10_nameOf_58 (by decide) ?_
        refine am_goto (tgt := 63) dX10_nameOf_59 (by decide) ?_
        exact am_iret dX10_nameOf_63 rfl rfl
      refine am_iconst (v := 1) dX10_nameOf_48 (by decide) ?_
      refine am_goto (tgt := 63) dX10_nameOf_49 (by decide) ?_
      exact am_iret dX10_nameOf_63 rfl rfl
    refine am_iconst (v := 0) dX10_nameOf_38 (by decide) ?_
    refine am_goto (tgt := 63) dX10_nameOf_39 (by decide) ?_
    exact am_iret dX10_nameOf_63 rfl rfl
  refine am_sw_cons (fun c7 => ?_) (fun c7 => ?_)
  · refine am_iload_n dX10_nameOf_64 rfl ?_
    refine am_bipush (v := 120) dX10_nameOf_65 (by decide) ?_
    refine am_icmp_ne (tgt := 74) dX10_nameOf_67 (by decide) (fun c6 => ?_) (fun c6 => ?_)
    · refine am_iload_n dX10_nameOf_74 rfl ?_
      refine am_bipush (v := 112) dX10_nameOf_75 (by decide) ?_
      refine am_icmp_ne (tgt := 84) dX10_nameOf_77 (by decide) (fun c5 => ?_) (fun c5 => ?_)
      · refine am_iconst (v := (-1)) dX10_nameOf_84 (by decide) ?_
        exact am_iret dX10_nameOf_85 rfl rfl
      refine am_iconst (v := 1) dX10_nameOf_80 (by decide) ?_
      refine am_goto (tgt := 85) dX10_nameOf_81 (by decide) ?_
      exact am_iret dX10_nameOf_85 rfl rfl
    refine am_iconst (v := 0) dX10_nameOf_70 (by decide) ?_
    refine am_goto (tgt := 85) dX10_nameOf_71 (by decide) ?_
    exact am_iret dX10_nameOf_85 rfl rfl
  refine am_sw_nil ?_
  refine am_iload_n dX10_nameOf_86 rfl ?_
  refine am_bipush (v := 100) dX10_nameOf_87 (by decide) ?_
  refine am_icmp_ne (tgt := 96) dX10_nameOf_89 (by decide) (fun c9 => ?_) (fun c9 => ?_)
  · refine am_iload_n dX10_nameOf_96 rfl ?_
    refine am_bipush (v := 108) dX10_nameOf_97 (by decide) ?_
    refine am_icmp_ne (tgt := 106) dX10_nameOf_99 (by decide) (fun c8 => ?_) (fun c8 => ?_)
    · refine am_iconst (v := (-1)) dX10_nameOf_106 (by decide) ?_
      exact am_iret dX10_nameOf_107 rfl rfl
    refine am_iconst (v := 1) dX10_nameOf_102 (by decide) ?_
    refine am_goto (tgt := 107) dX10_nameOf_103 (by decide) ?_
    exact am_iret dX10_nameOf_107 rfl rfl
  refine am_iconst (v := 0) dX10_nameOf_92 (by decide) ?_
  refine am_goto (tgt := 107) dX10_nameOf_93 (by decide) ?_
  exact am_iret dX10_nameOf_107 rfl rfl
theorem txX10_nameOf {xs : List Int32} (l0 : Option Nat) (l1 : Int32) (h : am_H) (a : Int32) (h2 : am_H) (e : fxX10_nameOf l0 l1 h = some (a, h2)) : am_Ct xs mX10_nameOf 0 0 0 [am_R l0, am_I l1] h (fun v h3 => v = am_ci a ∧ h3 = h2) := am_meth okX10_nameOf (Nat.le_of_ble_eq_true rfl) rfl (sxX10_nameOf l0 l1 h) e
theorem dX10_rank_0 : am_at cX10_rank 0 (.iload_n 0) 1 1 := by decide +kernel
theorem dX10_rank_1 : am_at cX10_rank 1 (.iconst (-1)) 1 2 := by decide +kernel
theorem dX10_rank_2 : am_at cX10_rank 2 (.if_icmp .ne 7) 3 5 := by decide +kernel
theorem dX10_rank_5 : am_at cX10_rank 5 (.iconst 1) 1 6 := by decide +kernel
theorem dX10_rank_6 : am_at cX10_rank 6 (.goto 45) 3 9 := by decide +kernel
theorem dX10_rank_9 : am_at cX10_rank 9 (.iload_n 0) 1 10 := by decide +kernel
theorem dX10_rank_10 : am_at cX10_rank 10 (.bipush (-2)) 2 12 := by decide +kernel
theorem dX10_rank_12 : am_at cX10_rank 12 (.if_icmp .ne 7) 3 15 := by decide +kernel
theorem dX10_rank_15 : am_at cX10_rank 15 (.iconst 2) 1 16 := by decide +kernel
theorem dX10_rank_16 : am_at cX10_rank 16 (.goto 35) 3 19 := by decide +kernel
theorem dX10_rank_19 : am_at cX10_rank 19 (.iload_n 0) 1 20 := by decide +kernel
theorem dX10_rank_20 : am_at cX10_rank 20 (.bipush (-5)) 2 22 := by decide +kernel
theorem dX10_rank_22 : am_at cX10_rank 22 (.if_icmp .lt 7) 3 25 := by decide +kernel
theorem dX10_rank_25 : am_at cX10_rank 25 (.iconst 3) 1 26 := by decide +kernel
theorem dX10_rank_26 : am_at cX10_rank 26 (.goto 25) 3 29 := by decide +kernel
theorem dX10_rank_29 : am_at cX10_rank 29 (.iload_n 0) 1 30 := by decide +kernel
theorem dX10_rank_30 : am_at cX10_rank 30 (.bipush (-7)) 2 32 := by decide +kernel
theorem dX10_rank_32 : am_at cX10_rank 32 (.if_icmp .lt 7) 3 35 := by decide +kernel
theorem dX10_rank_35 : am_at cX10_rank 35 (.iconst 4) 1 36 := by decide +kernel
theorem dX10_rank_36 : am_at cX10_rank 36 (.goto 15) 3 39 := by decide +kernel
theorem dX10_rank_39 : am_at cX10_rank 39 (.iload_n 0) 1 40 := by decide +kernel
theorem dX10_rank_40 : am_at cX10_rank 40 (.bipush (-9)) 2 42 := by decide +kernel
theorem dX10_rank_42 : am_at cX10_rank 42 (.if_icmp .lt 7) 3 45 := by decide +kernel
theorem dX10_rank_45 : am_at cX10_rank 45 (.iconst 5) 1 46 := by decide +kernel
theorem dX10_rank_46 : am_at cX10_rank 46 (.goto 5) 3 49 := by decide +kernel
theorem dX10_rank_49 : am_at cX10_rank 49 (.bipush 6) 2 51 := by decide +kernel
theorem dX10_rank_51 : am_at cX10_rank 51 (.ireturn) 1 52 := by decide +kernel
def fxX10_rank (l0 : Int32) (h : am_H) : Option (Int32 × am_H) := if l0 = (-1 : Int32) then (some ((1 : Int32), h)) else (if l0 = (-2 : Int32) then (some ((2 : Int32), h)) else (if l0 < (-5 : Int32) then (if l0 < (-7 : Int32) then (if l0 < (-9 : Int32) then (some ((6 : Int32), h)) else (some ((5 : Int32), h))) else (some ((4 : Int32), h))) else (some ((3 : Int32), h))))
set_option maxRecDepth 100000 in
theorem sxX10_rank {xs : List Int32} (l0 : Int32) (h : am_H) : am_Sm xs am_ci mX10_rank 0 0 0 0 [some (am_I l0)] [] h (fxX10_rank l0 h) := by
  unfold fxX10_rank
  refine am_iload_n dX10_rank_0 rfl ?_
  refine am_iconst (v := (-1)) dX10_rank_1 (by decide) ?_
  refine am_icmp_ne (tgt := 9) dX10_rank_2 (by decide) (fun c5 => ?_) (fun c5 => ?_)
  · refine am_iload_n dX10_rank_9 rfl ?_
    refine am_bipush (v := (-2)) dX10_rank_10 (by decide) ?_
    refine am_icmp_ne (tgt := 19) dX10_rank_12 (by decide) (fun c4 => ?_) (fun c4 => ?_)
    · refine am_iload_n dX10_rank_19 rfl ?_
      refine am_bipush (v := (-5)) dX10_rank_20 (by decide) ?_
      refine am_icmp_lt (tgt := 29) dX10_rank_22 (by decide) (fun c3 => ?_) (fun c3 => ?_)
      · refine am_iload_n dX10_rank_29 rfl ?_
        refine am_bipush (v := (-7)) dX10_rank_30 (by decide) ?_
        refine am_icmp_lt (tgt := 39) dX10_rank_32 (by decide) (fun c2 => ?_) (fun c2 => ?_)
        · refine am_iload_n dX10_rank_39 rfl ?_
          refine am_bipush (v := (-9)) dX10_rank_40 (by decide) ?_
          refine am_icmp_lt (tgt := 49) dX10_rank_42 (by decide) (fun c1 => ?_) (fun c1 => ?_)
          · refine am_bipush (v := 6) dX10_rank_49 (by decide) ?_
            exact am_iret dX10_rank_51 rfl rfl
          refine am_iconst (v := 5) dX10_rank_45 (by decide) ?_
          refine am_goto (tgt := 51) dX10_rank_46 (by decide) ?_
          exact am_iret dX10_rank_51 rfl rfl
        refine am_iconst (v := 4) dX10_rank_35 (by decide) ?_
        refine am_goto (tgt := 51) dX10_rank_36 (by decide) ?_
        exact am_iret dX10_rank_51 rfl rfl
      refine am_iconst (v := 3) dX10_rank_25 (by decide) ?_
      refine am_goto (tgt := 51) dX10_rank_26 (by decide) ?_
      exact am_iret dX10_rank_51 rfl rfl
    refine am_iconst (v := 2) dX10_rank_15 (by decide) ?_
    refine am_goto (tgt := 51) dX10_rank_16 (by decide) ?_
    exact am_iret dX10_rank_51 rfl rfl
  refine am_iconst (v := 1) dX10_rank_5 (by decide) ?_
  refine am_goto (tgt := 51) dX10_rank_6 (by decide) ?_
  exact am_iret dX10_rank_51 rfl rfl
theorem txX10_rank {xs : List Int32} (l0 : Int32) (h : am_H) (a : Int32) (h2 : am_H) (e : fxX10_rank l0 h = some (a, h2)) : am_Ct xs mX10_rank 0 0 0 [am_I l0] h (fun v h3 => v = am_ci a ∧ h3 = h2) := am_meth okX10_rank (Nat.le_of_ble_eq_true rfl) rfl (sxX10_rank l0 h) e
theorem dX10_settle_0 : am_at cX10_settle 0 (.aload_n 0) 1 1 := by decide +kernel
theorem dX10_settle_1 : am_at cX10_settle 1 (.getfield 244) 3 4 := by decide +kernel
theorem dX10_settle_4 : am_at cX10_settle 4 (.ifCond .le 78) 3 7 := by decide +kernel
theorem dX10_settle_7 : am_at cX10_settle 7 (.aload_n 0) 1 8 := by decide +kernel
theorem dX10_settle_8 : am_at cX10_settle 8 (.getfield 44) 3 11 := by decide +kernel
theorem dX10_settle_11 : am_at cX10_settle 11 (.aload_n 0) 1 12 := by decide +kernel
theorem dX10_settle_12 : am_at cX10_settle 12 (.getfield 244) 3 15 := by decide +kernel
theorem dX10_settle_15 : am_at cX10_settle 15 (.iconst 1) 1 16 := by decide +kernel
theorem dX10_settle_16 : am_at cX10_settle 16 (.isub) 1 17 := by decide +kernel
theorem dX10_settle_17 : am_at cX10_settle 17 (.iaload) 1 18 := by decide +kernel
theorem dX10_settle_18 : am_at cX10_settle 18 (.bipush (-11)) 2 20 := by decide +kernel
theorem dX10_settle_20 : am_at cX10_settle 20 (.if_icmp .eq 62) 3 23 := by decide +kernel
theorem dX10_settle_23 : am_at cX10_settle 23 (.aload_n 0) 1 24 := by decide +kernel
theorem dX10_settle_24 : am_at cX10_settle 24 (.getfield 44) 3 27 := by decide +kernel
theorem dX10_settle_27 : am_at cX10_settle 27 (.aload_n 0) 1 28 := by decide +kernel
theorem dX10_settle_28 : am_at cX10_settle 28 (.getfield 244) 3 31 := by decide +kernel
theorem dX10_settle_31 : am_at cX10_settle 31 (.iconst 1) 1 32 := by decide +kernel
theorem dX10_settle_32 : am_at cX10_settle 32 (.isub) 1 33 := by decide +kernel
theorem dX10_settle_33 : am_at cX10_settle 33 (.iaload) 1 34 := by decide +kernel
theorem dX10_settle_34 : am_at cX10_settle 34 (.invokestatic 247) 3 37 := by decide +kernel
theorem dX10_settle_37 : am_at cX10_settle 37 (.iload_n 1) 1 38 := by decide +kernel
theorem dX10_settle_38 : am_at cX10_settle 38 (.if_icmp .lt 44) 3 41 := by decide +kernel
theorem dX10_settle_41 : am_at cX10_settle 41 (.aload_n 0) 1 42 := by decide +kernel
theorem dX10_settle_42 : am_at cX10_settle 42 (.dup) 1 43 := by decide +kernel
theorem dX10_settle_43 : am_at cX10_settle 43 (.getfield 244) 3 46 := by decide +kernel
theorem dX10_settle_46 : am_at cX10_settle 46 (.iconst 1) 1 47 := by decide +kernel
theorem dX10_settle_47 : am_at cX10_settle 47 (.isub) 1 48 := by decide +kernel
theorem dX10_settle_48 : am_at cX10_settle 48 (.putfield 244) 3 51 := by decide +kernel
theorem dX10_settle_51 : am_at cX10_settle 51 (.aload_n 0) 1 52 := by decide +kernel
theorem dX10_settle_52 : am_at cX10_settle 52 (.getfield 41) 3 55 := by decide +kernel
theorem dX10_settle_55 : am_at cX10_settle 55 (.aload_n 0) 1 56 := by decide +kernel
theorem dX10_settle_56 : am_at cX10_settle 56 (.getfield 250) 3 59 := by decide +kernel
theorem dX10_settle_59 : am_at cX10_settle 59 (.aload_n 0) 1 60 := by decide +kernel
theorem dX10_settle_60 : am_at cX10_settle 60 (.getfield 44) 3 63 := by decide +kernel
theorem dX10_settle_63 : am_at cX10_settle 63 (.aload_n 0) 1 64 := by decide +kernel
theorem dX10_settle_64 : am_at cX10_settle 64 (.getfield 244) 3 67 := by decide +kernel
theorem dX10_settle_67 : am_at cX10_settle 67 (.iaload) 1 68 := by decide +kernel
theorem dX10_settle_68 : am_at cX10_settle 68 (.iastore) 1 69 := by decide +kernel
theorem dX10_settle_69 : am_at cX10_settle 69 (.aload_n 0) 1 70 := by decide +kernel
theorem dX10_settle_70 : am_at cX10_settle 70 (.dup) 1 71 := by decide +kernel
theorem dX10_settle_71 : am_at cX10_settle 71 (.getfield 250) 3 74 := by decide +kernel
theorem dX10_settle_74 : am_at cX10_settle 74 (.iconst 1) 1 75 := by decide +kernel
theorem dX10_settle_75 : am_at cX10_settle 75 (.iadd) 1 76 := by decide +kernel
theorem dX10_settle_76 : am_at cX10_settle 76 (.putfield 250) 3 79 := by decide +kernel
theorem dX10_settle_79 : am_at cX10_settle 79 (.goto (-79)) 3 82 := by decide +kernel
theorem dX10_settle_82 : am_at cX10_settle 82 (.return_) 1 83 := by decide +kernel
def fxX10_settle_b0 : Nat → Option Nat → Int32 → am_H → Option (Unit × am_H)
  | 0, _, _, _ => none
  | n + 1, l0, l1, h => am_gd (am_ob h l0 10) (if (am_gi h l0 22) ≤ 0 then (some ((), h)) else (am_gd (am_ob h l0 10) (am_gd (am_ob h l0 10) (am_gd (am_ix h (am_gr h l0 21) 0 ((am_gi h l0 22) - (1 : Int32))) (if (am_gi h (am_gr h l0 21) ((am_gi h l0 22) - (1 : Int32)).toNatClampNeg) = (-11 : Int32) then (some ((), h)) else (am_gd (am_ob h l0 10) (am_gd (am_ob h l0 10) (am_gd (am_ix h (am_gr h l0 21) 0 ((am_gi h l0 22) - (1 : Int32))) (am_bd (fxX10_rank (am_gi h (am_gr h l0 21) ((am_gi h l0 22) - (1 : Int32)).toNatClampNeg) h) (fun r1 h2 => if r1 < l1 then (some ((), h2)) else (am_gd (am_ob h2 l0 10) (am_gd (am_ob h2 l0 10) (am_lt (am_si h2 l0 22 ((am_gi h2 l0 22) - (1 : Int32))) (fun h3 => am_gd (am_ob h3 l0 10) (am_gd (am_ob h3 l0 10) (am_gd (am_ob h3 l0 10) (am_gd (am_ob h3 l0 10) (am_gd (am_ix h3 (am_gr h3 l0 21) 0 (am_gi h3 l0 22)) (am_gd (am_ix h3 (am_gr h3 l0 18) 0 (am_gi h3 l0 19)) (am_lt (am_si h3 (am_gr h3 l0 18) (am_gi h3 l0 19).toNatClampNeg (am_gi h3 (am_gr h3 l0 21) (am_gi h3 l0 22).toNatClampNeg)) (fun h4 => am_gd (am_ob h4 l0 10) (am_gd (am_ob h4 l0 10) (am_lt (am_si h4 l0 19 ((am_gi h4 l0 19) + (1 : Int32))) (fun h5 => fxX10_settle_b0 n l0 l1 h5))))))))))))))))))))))))
set_option maxRecDepth 100000 in
theorem sxX10_settle_b0 {xs : List Int32} : ∀ (n : Nat) (l0 : Option Nat) (l1 : Int32) (h : am_H), am_Sm xs am_cu mX10_settle 1 0 0 0 [some (am_R l0), some (am_I l1)] [] h (fxX10_settle_b0 n l0 l1 h) := by
  intro n
  induction n with
  | zero => intros; exact am_none
  | succ n ih =>
    intro l0 l1 h
    rw [fxX10_settle_b0]
    refine am_aload_n dX10_settle_0 rfl ?_
    refine am_getI dX10_settle_1 fk_RX10_244 rfl ?_
    refine am_if_le (tgt := 82) dX10_settle_4 (by decide) (fun c8 => ?_) (fun c8 => ?_)
    · exact am_vret dX10_settle_82 rfl rfl
    refine am_aload_n dX10_settle_7 rfl ?_
    refine am_getR dX10_settle_8 fk_RX10_44 rfl ?_
    refine am_aload_n dX10_settle_11 rfl ?_
    refine am_getI dX10_settle_12 fk_RX10_244 rfl ?_
    refine am_iconst (v := 1) dX10_settle_15 (by decide) ?_
    refine am_isub dX10_settle_16 ?_
    refine am_iald dX10_settle_17 ?_
    refine am_bipush (v := (-11)) dX10_settle_18 (by decide) ?_
    refine am_icmp_eq (tgt := 82) dX10_settle_20 (by decide) (fun c7 => ?_) (fun c7 => ?_)
    · exact am_vret dX10_settle_82 rfl rfl
    refine am_aload_n dX10_settle_23 rfl ?_
    refine am_getR dX10_settle_24 fk_RX10_44 rfl ?_
    refine am_aload_n dX10_settle_27 rfl ?_
    refine am_getI dX10_settle_28 fk_RX10_244 rfl ?_
    refine am_iconst (v := 1) dX10_settle_31 (by decide) ?_
    refine am_isub dX10_settle_32 ?_
    refine am_iald dX10_settle_33 ?_
    refine am_callS (cvj := am_ci) (mtj := mX10_rank) (dj := 0) (nj := 1) (rcj := 0) (rsj := 0) (rc' := 0) (rs' := 0) (st' := fun a9 => (am_I a9 :: [])) [am_I (am_gi h (am_gr h l0 21) ((am_gi h l0 22) - (1 : Int32)).toNatClampNeg)] [] dX10_settle_34 okX10_rank lk_RX10_247 (fun zA zH zE => txX10_rank (am_gi h (am_gr h l0 21) ((am_gi h l0 22) - (1 : Int32)).toNatClampNeg) h zA zH zE) rfl (fun _ => rfl) (by decide) rfl (Nat.le_of_ble_eq_true rfl) (by decide) (by decide) (fun r1 h2 => ?_)
    refine am_iload_n dX10_settle_37 rfl ?_
    refine am_icmp_lt (tgt := 82) dX10_settle_38 (by decide) (fun c6 => ?_) (fun c6 => ?_)
    · exact am_vret dX10_settle_82 rfl rfl
    refine am_aload_n dX10_settle_41 rfl ?_
    refine am_dup dX10_settle_42 ?_
    refine am_getI dX10_settle_43 fk_RX10_244 rfl ?_
    refine am_iconst (v := 1) dX10_settle_46 (by decide) ?_
    refine am_isub dX10_settle_47 ?_
    refine am_putI dX10_settle_48 fk_RX10_244 ⟨_, rfl, Or.inl rfl⟩ rfl (fun h3 => ?_)
    refine am_aload_n dX10_settle_51 rfl ?_
    refine am_getR dX10_settle_52 fk_RX10_41 rfl ?_
    refine am_aload_n dX10_settle_55 rfl ?_
    refine am_getI dX10_settle_56 fk_RX10_250 rfl ?_
    refine am_aload_n dX10_settle_59 rfl ?_
    refine am_getR dX10_settle_60 fk_RX10_44 rfl ?_
    refine am_aload_n dX10_settle_63 rfl ?_
    refine am_getI dX10_settle_64 fk_RX10_244 rfl ?_
    refine am_iald dX10_settle_67 ?_
    refine am_iast dX10_settle_68 (fun h4 => ?_)
    refine am_aload_n dX10_settle_69 rfl ?_
    refine am_dup dX10_settle_70 ?_
    refine am_getI dX10_settle_71 fk_RX10_250 rfl ?_
    refine am_iconst (v := 1) dX10_settle_74 (by decide) ?_
    refine am_iadd dX10_settle_75 ?_
    refine am_putI dX10_settle_76 fk_RX10_250 ⟨_, rfl, Or.inl rfl⟩ rfl (fun h5 => ?_)
    refine am_goto (tgt := 0) dX10_settle_79 (by decide) ?_
    exact am_weak (ih l0 l1 h5) ⟨rfl, ⟨rfl, trivial⟩⟩ (Nat.le_refl _) (Nat.le_refl _)
def fxX10_settle (l0 : Option Nat) (l1 : Int32) (h : am_H) : Option (Unit × am_H) := fxX10_settle_b0 am_F l0 l1 h
set_option maxRecDepth 100000 in
theorem sxX10_settle {xs : List Int32} (l0 : Option Nat) (l1 : Int32) (h : am_H) : am_Sm xs am_cu mX10_settle 1 0 0 0 [some (am_R l0), some (am_I l1)] [] h (fxX10_settle l0 l1 h) := by
  unfold fxX10_settle
  exact am_weak (sxX10_settle_b0 am_F l0 l1 h) ⟨rfl, ⟨rfl, trivial⟩⟩ (Nat.le_refl _) (Nat.le_refl _)
theorem txX10_settle {xs : List Int32} (l0 : Option Nat) (l1 : Int32) (h : am_H) (a : Unit) (h2 : am_H) (e : fxX10_settle l0 l1 h = some (a, h2)) : am_Ct xs mX10_settle 1 0 0 [am_R l0, am_I l1] h (fun v h3 => v = am_cu a ∧ h3 = h2) := am_meth okX10_settle (Nat.le_of_ble_eq_true rfl) rfl (sxX10_settle l0 l1 h) e
theorem dX10_signHere_0 : am_at cX10_signHere 0 (.aload_n 0) 1 1 := by decide +kernel
theorem dX10_signHere_1 : am_at cX10_signHere 1 (.getfield 226) 3 4 := by decide +kernel
theorem dX10_signHere_4 : am_at cX10_signHere 4 (.iconst 3) 1 5 := by decide +kernel
theorem dX10_signHere_5 : am_at cX10_signHere 5 (.if_icmp .eq 5) 3 8 := by decide +kernel
theorem dX10_signHere_8 : am_at cX10_signHere 8 (.iconst 0) 1 9 := by decide +kernel
theorem dX10_signHere_9 : am_at cX10_signHere 9 (.ireturn) 1 10 := by decide +kernel
theorem dX10_signHere_10 : am_at cX10_signHere 10 (.aload_n 0) 1 11 := by decide +kernel
theorem dX10_signHere_11 : am_at cX10_signHere 11 (.getfield 232) 3 14 := by decide +kernel
theorem dX10_signHere_14 : am_at cX10_signHere 14 (.lookupswitch 108 #[(38, 84), (42, 102), (43, 96), (45, 99), (47, 105), (60, 87), (61, 90), (62, 93), (124, 82)]) 82 96 := by decide +kernel
theorem dX10_signHere_96 : am_at cX10_signHere 96 (.iconst (-1)) 1 97 := by decide +kernel
theorem dX10_signHere_97 : am_at cX10_signHere 97 (.ireturn) 1 98 := by decide +kernel
theorem dX10_signHere_98 : am_at cX10_signHere 98 (.bipush (-2)) 2 100 := by decide +kernel
theorem dX10_signHere_100 : am_at cX10_signHere 100 (.ireturn) 1 101 := by decide +kernel
theorem dX10_signHere_101 : am_at cX10_signHere 101 (.bipush (-3)) 2 103 := by decide +kernel
theorem dX10_signHere_103 : am_at cX10_signHere 103 (.ireturn) 1 104 := by decide +kernel
theorem dX10_signHere_104 : am_at cX10_signHere 104 (.bipush (-4)) 2 106 := by decide +kernel
theorem dX10_signHere_106 : am_at cX10_signHere 106 (.ireturn) 1 107 := by decide +kernel
theorem dX10_signHere_107 : am_at cX10_signHere 107 (.bipush (-5)) 2 109 := by decide +kernel
theorem dX10_signHere_109 : am_at cX10_signHere 109 (.ireturn) 1 110 := by decide +kernel
theorem dX10_signHere_110 : am_at cX10_signHere 110 (.bipush (-6)) 2 112 := by decide +kernel
theorem dX10_signHere_112 : am_at cX10_signHere 112 (.ireturn) 1 113 := by decide +kernel
theorem dX10_signHere_113 : am_at cX10_signHere 113 (.bipush (-7)) 2 115 := by decide +kernel
theorem dX10_signHere_115 : am_at cX10_signHere 115 (.ireturn) 1 116 := by decide +kernel
theorem dX10_signHere_116 : am_at cX10_signHere 116 (.bipush (-8)) 2 118 := by decide +kernel
theorem dX10_signHere_118 : am_at cX10_signHere 118 (.ireturn) 1 119 := by decide +kernel
theorem dX10_signHere_119 : am_at cX10_signHere 119 (.bipush (-9)) 2 121 := by decide +kernel
theorem dX10_signHere_121 : am_at cX10_signHere 121 (.ireturn) 1 122 := by decide +kernel
theorem dX10_signHere_122 : am_at cX10_signHere 122 (.iconst 0) 1 123 := by decide +kernel
theorem dX10_signHere_123 : am_at cX10_signHere 123 (.ireturn) 1 124 := by decide +kernel
def fxX10_signHere (l0 : Option Nat) (h : am_H) : Option (Int32 × am_H) := am_gd (am_ob h l0 10) (if (am_gi h l0 12) = (3 : Int32) then (am_gd (am_ob h l0 10) (if (am_gi h l0 13) = 38 then (some ((-2 : Int32), h)) else (if (am_gi h l0 13) = 42 then (some ((-8 : Int32), h)) else (if (am_gi h l0 13) = 43 then (some ((-6 : Int32), h)) else (if (am_gi h l0 13) = 45 then (some ((-7 : Int32), h)) else (if (am_gi h l0 13) = 47 then (some ((-9 : Int32), h)) else (if (am_gi h l0 13) = 60 then (some ((-3 : Int32), h)) else (if (am_gi h l0 13) = 61 then (some ((-4 : Int32), h)) else (if (am_gi h l0 13) = 62 then (some ((-5 : Int32), h)) else (if (am_gi h l0 13) = 124 then (some ((-1 : Int32), h)) else (some ((0 : Int32), h)))))))))))) else (some ((0 : Int32), h)))
set_option maxRecDepth 100000 in
theorem sxX10_signHere {xs : List Int32} (l0 : Option Nat) (h : am_H) : am_Sm xs am_ci mX10_signHere 0 0 0 0 [some (am_R l0)] [] h (fxX10_signHere l0 h) := by
  unfold fxX10_signHere
  refine am_aload_n dX10_signHere_0 rfl ?_
  refine am_getI dX10_signHere_1 fk_RX10_226 rfl ?_
  refine am_iconst (v := 3) dX10_signHere_4 (by decide) ?_
  refine am_icmp_eq (tgt := 10) dX10_signHere_5 (by decide) (fun c10 => ?_) (fun c10 => ?_)
  · refine am_aload_n dX10_signHere_10 rfl ?_
    refine am_getI dX10_signHere_11 fk_RX10_232 rfl ?_
    refine am_lookup (cs := [(38, 98), (42, 116), (43, 110), (45, 113), (47, 119), (60, 101), (61, 104), (62, 107), (124, 96)]) (dt := 122) dX10_signHere_14 (by decide +kernel) ?_
    refine am_sw_cons (fun c1 => ?_) (fun c1 => ?_)
    · refine am_bipush (v := (-2)) dX10_signHere_98 (by decide) ?_
      exact am_iret dX10_signHere_100 rfl rfl
    refine am_sw_cons (fun c2 => ?_) (fun c2 => ?_)
    · refine am_bipush (v := (-8)) dX10_signHere_116 (by decide) ?_
      exact am_iret dX10_signHere_118 rfl rfl
    refine am_sw_cons (fun c3 => ?_) (fun c3 => ?_)
    · refine am_bipush (v := (-6)) dX10_signHere_110 (by decide) ?_
      exact am_iret dX10_signHere_112 rfl rfl
    refine am_sw_cons (fun c4 => ?_) (fun c4 => ?_)
    · refine am_bipush (v := (-7)) dX10_signHere_113 (by decide) ?_
      exact am_iret dX10_signHere_115 rfl rfl
    refine am_sw_cons (fun c5 => ?_) (fun c5 => ?_)
    · refine am_bipush (v := (-9)) dX10_signHere_119 (by decide) ?_
      exact am_iret dX10_signHere_121 rfl rfl
    refine am_sw_cons (fun c6 => ?_) (fun c6 => ?_)
    · refine am_bipush (v := (-3)) dX10_signHere_101 (by decide) ?_
      exact am_iret dX10_signHere_103 rfl rfl
    refine am_sw_cons (fun c7 => ?_) (fun c7 => ?_)
    · refine am_bipush (v := (-4)) dX10_signHere_104 (by decide) ?_
      exact am_iret dX10_signHere_106 rfl rfl
    refine am_sw_cons (fun c8 => ?_) (fun c8 => ?_)
    · refine am_bipush (v := (-5)) dX10_signHere_107 (by decide) ?_
      exact am_iret dX10_signHere_109 rfl rfl
    refine am_sw_cons (fun c9 => ?_) (fun c9 => ?_)
    · refine am_iconst (v := (-1)) dX10_signHere_96 (by decide) ?_
      exact am_iret dX10_signHere_97 rfl rfl
    refine am_sw_nil ?_
    refine am_iconst (v := 0) dX10_signHere_122 (by decide) ?_
    exact am_iret dX10_signHere_123 rfl rfl
  refine am_iconst (v := 0) dX10_signHere_8 (by decide) ?_
  exact am_iret dX10_signHere_9 rfl rfl
theorem txX10_signHere {xs : List Int32} (l0 : Option Nat) (h : am_H) (a : Int32) (h2 : am_H) (e : fxX10_signHere l0 h = some (a, h2)) : am_Ct xs mX10_signHere 0 0 0 [am_R l0] h (fun v h3 => v = am_ci a ∧ h3 = h2) := am_meth okX10_signHere (Nat.le_of_ble_eq_true rfl) rfl (sxX10_signHere l0 h) e
theorem dX10_takesPart_0 : am_at cX10_takesPart 0 (.aload_n 0) 1 1 := by decide +kernel
theorem dX10_takesPart_1 : am_at cX10_takesPart 1 (.getfield 226) 3 4 := by decide +kernel
theorem dX10_takesPart_4 : am_at cX10_takesPart 4 (.iconst 1) 1 5 := by decide +kernel
theorem dX10_takesPart_5 : am_at cX10_takesPart 5 (.if_icmp .ne 31) 3 8 := by decide +kernel
theorem dX10_takesPart_8 : am_at cX10_takesPart 8 (.aload_n 0) 1 9 := by decide +kernel
theorem dX10_takesPart_9 : am_at cX10_takesPart 9 (.getfield 217) 3 12 := by decide +kernel
theorem dX10_takesPart_12 : am_at cX10_takesPart 12 (.aload_n 0) 1 13 := by decide +kernel
theorem dX10_takesPart_13 : am_at cX10_takesPart 13 (.getfield 220) 3 16 := by decide +kernel
theorem dX10_takesPart_16 : am_at cX10_takesPart 16 (.isub) 1 17 := by decide +kernel
theorem dX10_takesPart_17 : am_at cX10_takesPart 17 (.iconst 1) 1 18 := by decide +kernel
theorem dX10_takesPart_18 : am_at cX10_takesPart 18 (.if_icmp .ne 18) 3 21 := by decide +kernel
theorem dX10_takesPart_21 : am_at cX10_takesPart 21 (.aload_n 0) 1 22 := by decide +kernel
theorem dX10_takesPart_22 : am_at cX10_takesPart 22 (.aload_n 0) 1 23 := by decide +kernel
theorem dX10_takesPart_23 : am_at cX10_takesPart 23 (.getfield 232) 3 26 := by decide +kernel
theorem dX10_takesPart_26 : am_at cX10_takesPart 26 (.invokevirtual 253) 3 29 := by decide +kernel
theorem dX10_takesPart_29 : am_at cX10_takesPart 29 (.ifCond .lt 7) 3 32 := by decide +kernel
theorem dX10_takesPart_32 : am_at cX10_takesPart 32 (.iconst 1) 1 33 := by decide +kernel
theorem dX10_takesPart_33 : am_at cX10_takesPart 33 (.goto 4) 3 36 := by decide +kernel
theorem dX10_takesPart_36 : am_at cX10_takesPart 36 (.iconst 0) 1 37 := by decide +kernel
theorem dX10_takesPart_37 : am_at cX10_takesPart 37 (.istore_n 1) 1 38 := by decide +kernel
theorem dX10_takesPart_38 : am_at cX10_takesPart 38 (.aload_n 0) 1 39 := by decide +kernel
theorem dX10_takesPart_39 : am_at cX10_takesPart 39 (.getfield 226) 3 42 := by decide +kernel
theorem dX10_takesPart_42 : am_at cX10_takesPart 42 (.iconst 2) 1 43 := by decide +kernel
theorem dX10_takesPart_43 : am_at cX10_takesPart 43 (.if_icmp .eq 9) 3 46 := by decide +kernel
theorem dX10_takesPart_46 : am_at cX10_takesPart 46 (.iload_n 1) 1 47 := by decide +kernel
theorem dX10_takesPart_47 : am_at cX10_takesPart 47 (.ifCond .ne 5) 3 50 := by decide +kernel
theorem dX10_takesPart_50 : am_at cX10_takesPart 50 (.iconst 0) 1 51 := by decide +kernel
theorem dX10_takesPart_51 : am_at cX10_takesPart 51 (.ireturn) 1 52 := by decide +kernel
theorem dX10_takesPart_52 : am_at cX10_takesPart 52 (.aload_n 0) 1 53 := by decide +kernel
theorem dX10_takesPart_53 : am_at cX10_takesPart 53 (.getfield 41) 3 56 := by decide +kernel
theorem dX10_takesPart_56 : am_at cX10_takesPart 56 (.aload_n 0) 1 57 := by decide +kernel
theorem dX10_takesPart_57 : am_at cX10_takesPart 57 (.getfield 250) 3 60 := by decide +kernel
theorem dX10_takesPart_60 : am_at cX10_takesPart 60 (.aload_n 0) 1 61 := by decide +kernel
theorem dX10_takesPart_61 : am_at cX10_takesPart 61 (.getfield 226) 3 64 := by decide +kernel
theorem dX10_takesPart_64 : am_at cX10_takesPart 64 (.iconst 2) 1 65 := by decide +kernel
theorem dX10_takesPart_65 : am_at cX10_takesPart 65 (.if_icmp .ne 10) 3 68 := by decide +kernel
theorem dX10_takesPart_68 : am_at cX10_takesPart 68 (.aload_n 0) 1 69 := by decide +kernel
theorem dX10_takesPart_69 : am_at cX10_takesPart 69 (.getfield 232) 3 72 := by decide +kernel
theorem dX10_takesPart_72 : am_at cX10_takesPart 72 (.goto 15) 3 75 := by decide +kernel
theorem dX10_takesPart_75 : am_at cX10_takesPart 75 (.sipush 10000) 3 78 := by decide +kernel
theorem dX10_takesPart_78 : am_at cX10_takesPart 78 (.aload_n 0) 1 79 := by decide +kernel
theorem dX10_takesPart_79 : am_at cX10_takesPart 79 (.aload_n 0) 1 80 := by decide +kernel
theorem dX10_takesPart_80 : am_at cX10_takesPart 80 (.getfield 232) 3 83 := by decide +kernel
theorem dX10_takesPart_83 : am_at cX10_takesPart 83 (.invokevirtual 253) 3 86 := by decide +kernel
theorem dX10_takesPart_86 : am_at cX10_takesPart 86 (.iadd) 1 87 := by decide +kernel
theorem dX10_takesPart_87 : am_at cX10_takesPart 87 (.iastore) 1 88 := by decide +kernel
theorem dX10_takesPart_88 : am_at cX10_takesPart 88 (.aload_n 0) 1 89 := by decide +kernel
theorem dX10_takesPart_89 : am_at cX10_takesPart 89 (.dup) 1 90 := by decide +kernel
theorem dX10_takesPart_90 : am_at cX10_takesPart 90 (.getfield 250) 3 93 := by decide +kernel
theorem dX10_takesPart_93 : am_at cX10_takesPart 93 (.iconst 1) 1 94 := by decide +kernel
theorem dX10_takesPart_94 : am_at cX10_takesPart 94 (.iadd) 1 95 := by decide +kernel
theorem dX10_takesPart_95 : am_at cX10_takesPart 95 (.putfield 250) 3 98 := by decide +kernel
theorem dX10_takesPart_98 : am_at cX10_takesPart 98 (.aload_n 0) 1 99 := by decide +kernel
theorem dX10_takesPart_99 : am_at cX10_takesPart 99 (.dup) 1 100 := by decide +kernel
theorem dX10_takesPart_100 : am_at cX10_takesPart 100 (.getfield 256) 3 103 := by decide +kernel
theorem dX10_takesPart_103 : am_at cX10_takesPart 103 (.iconst 1) 1 104 := by decide +kernel
theorem dX10_takesPart_104 : am_at cX10_takesPart 104 (.iadd) 1 105 := by decide +kernel
theorem dX10_takesPart_105 : am_at cX10_takesPart 105 (.putfield 256) 3 108 := by decide +kernel
theorem dX10_takesPart_108 : am_at cX10_takesPart 108 (.aload_n 0) 1 109 := by decide +kernel
theorem dX10_takesPart_109 : am_at cX10_takesPart 109 (.bipush 6) 2 111 := by decide +kernel
theorem dX10_takesPart_111 : am_at cX10_takesPart 111 (.invokevirtual 259) 3 114 := by decide +kernel
theorem dX10_takesPart_114 : am_at cX10_takesPart 114 (.aload_n 0) 1 115 := by decide +kernel
theorem dX10_takesPart_115 : am_at cX10_takesPart 115 (.invokevirtual 241) 3 118 := by decide +kernel
theorem dX10_takesPart_118 : am_at cX10_takesPart 118 (.iconst 1) 1 119 := by decide +kernel
theorem dX10_takesPart_119 : am_at cX10_takesPart 119 (.ireturn) 1 120 := by decide +kernel
def fxX10_takesPart_b87 (l0 : Option Nat) (s0 : Int32) (s1 : Int32) (s2 : Option Nat) (h : am_H) : Option (Int32 × am_H) := am_gd (am_ix h s2 0 s1) (am_lt (am_si h s2 s1.toNatClampNeg s0) (fun h12 => am_gd (am_ob h12 l0 10) (am_gd (am_ob h12 l0 10) (am_lt (am_si h12 l0 19 ((am_gi h12 l0 19) + (1 : Int32))) (fun h13 => am_gd (am_ob h13 l0 10) (am_gd (am_ob h13 l0 10) (am_lt (am_si h13 l0 20 ((am_gi h13 l0 20) + (1 : Int32))) (fun h14 => am_gd (am_ob h14 l0 10) (am_bd (fxX10_settle l0 (6 : Int32) h14) (fun _ h15 => am_gd (am_ob h15 l0 10) (am_bd (fxX10_go l0 h15) (fun _ h16 => am_gd (am_bz (1 : Int32)) (some ((1 : Int32), h16))))))))))))))
set_option maxRecDepth 100000 in
theorem sxX10_takesPart_b87 {xs : List Int32} (l0 : Option Nat) (s0 : Int32) (s1 : Int32) (s2 : Option Nat) (h : am_H) : am_Sm xs am_ci mX10_takesPart 2 0 0 87 [some (am_R l0), none] [am_I s0, am_I s1, am_R s2] h (fxX10_takesPart_b87 l0 s0 s1 s2 h) := by
  unfold fxX10_takesPart_b87
  refine am_iast dX10_takesPart_87 (fun h12 => ?_)
  refine am_aload_n dX10_takesPart_88 rfl ?_
  refine am_dup dX10_takesPart_89 ?_
  refine am_getI dX10_takesPart_90 fk_RX10_250 rfl ?_
  refine am_iconst (v := 1) dX10_takesPart_93 (by decide) ?_
  refine am_iadd dX10_takesPart_94 ?_
  refine am_putI dX10_takesPart_95 fk_RX10_250 ⟨_, rfl, Or.inl rfl⟩ rfl (fun h13 => ?_)
  refine am_aload_n dX10_takesPart_98 rfl ?_
  refine am_dup dX10_takesPart_99 ?_
  refine am_getI dX10_takesPart_100 fk_RX10_256 rfl ?_
  refine am_iconst (v := 1) dX10_takesPart_103 (by decide) ?_
  refine am_iadd dX10_takesPart_104 ?_
  refine am_putI dX10_takesPart_105 fk_RX10_256 ⟨_, rfl, Or.inl rfl⟩ rfl (fun h14 => ?_)
  refine am_aload_n dX10_takesPart_108 rfl ?_
  refine am_bipush (v := 6) dX10_takesPart_109 (by decide) ?_
  refine am_callV (cvj := am_cu) (mtj := mX10_settle) (dj := 1) (nj := 1) (rcj := 0) (rsj := 0) (rc' := 0) (rs' := 0) (ci := 10) (st' := fun _ => []) ⟨_, rfl, rfl⟩ [am_I (6 : Int32)] [] dX10_takesPart_111 okX10_settle lk_RX10_259 (fun zA zH zE => txX10_settle l0 (6 : Int32) h14 zA zH zE) rfl (fun _ => rfl) (by decide) rfl (Nat.le_of_ble_eq_true rfl) (by decide) (by decide) (fun _ h15 => ?_)
  refine am_aload_n dX10_takesPart_114 rfl ?_
  refine am_callV (cvj := am_cu) (mtj := mX10_go) (dj := 1) (nj := 0) (rcj := 0) (rsj := 0) (rc' := 0) (rs' := 0) (ci := 10) (st' := fun _ => []) ⟨_, rfl, rfl⟩ [] [] dX10_takesPart_115 okX10_go lk_RX10_241 (fun zA zH zE => txX10_go l0 h15 zA zH zE) rfl (fun _ => rfl) (by decide) rfl (Nat.le_of_ble_eq_true rfl) (by decide) (by decide) (fun _ h16 => ?_)
  refine am_iconst (v := 1) dX10_takesPart_118 (by decide) ?_
  exact am_zret dX10_takesPart_119 rfl rfl
def fxX10_takesPart_b52 (l0 : Option Nat) (h : am_H) : Option (Int32 × am_H) := am_gd (am_ob h l0 10) (am_gd (am_ob h l0 10) (am_gd (am_ob h l0 10) (if (am_gi h l0 12) = (2 : Int32) then (am_gd (am_ob h l0 10) (fxX10_takesPart_b87 l0 (am_gi h l0 13) (am_gi h l0 19) (am_gr h l0 18) h)) else (am_gd (am_ob h l0 10) (am_gd (am_ob h l0 10) (am_bd (fxX10_nameOf l0 (am_gi h l0 13) h) (fun r9 h10 => fxX10_takesPart_b87 l0 ((10000 : Int32) + r9) (am_gi h l0 19) (am_gr h l0 18) h10)))))))
set_option maxRecDepth 100000 in
theorem sxX10_takesPart_b52 {xs : List Int32} (l0 : Option Nat) (h : am_H) : am_Sm xs am_ci mX10_takesPart 2 0 0 52 [some (am_R l0), none] [] h (fxX10_takesPart_b52 l0 h) := by
  unfold fxX10_takesPart_b52
  refine am_aload_n dX10_takesPart_52 rfl ?_
  refine am_getR dX10_takesPart_53 fk_RX10_41 rfl ?_
  refine am_aload_n dX10_takesPart_56 rfl ?_
  refine am_getI dX10_takesPart_57 fk_RX10_250 rfl ?_
  refine am_aload_n dX10_takesPart_60 rfl ?_
  refine am_getI dX10_takesPart_61 fk_RX10_226 rfl ?_
  refine am_iconst (v := 2) dX10_takesPart_64 (by decide) ?_
  refine am_icmp_ne (tgt := 75) dX10_takesPart_65 (by decide) (fun c11 => ?_) (fun c11 => ?_)
  · refine am_sipush (v := 10000) dX10_takesPart_75 (by decide) ?_
    refine am_aload_n dX10_takesPart_78 rfl ?_
    refine am_aload_n dX10_takesPart_79 rfl ?_
    refine am_getI dX10_takesPart_80 fk_RX10_232 rfl ?_
    refine am_callV (cvj := am_ci) (mtj := mX10_nameOf) (dj := 0) (nj := 1) (rcj := 0) (rsj := 0) (rc' := 0) (rs' := 0) (ci := 10) (st' := fun a9 => (am_I a9 :: [am_I (10000 : Int32), am_I (am_gi h l0 19), am_R (am_gr h l0 18)])) ⟨_, rfl, rfl⟩ [am_I (am_gi h l0 13)] [am_I (10000 : Int32), am_I (am_gi h l0 19), am_R (am_gr h l0 18)] dX10_takesPart_83 okX10_nameOf lk_RX10_253 (fun zA zH zE => txX10_nameOf l0 (am_gi h l0 13) h zA zH zE) rfl (fun _ => rfl) (by decide) rfl (Nat.le_of_ble_eq_true rfl) (by decide) (by decide) (fun r9 h10 => ?_)
    refine am_iadd dX10_takesPart_86 ?_
    exact am_weak (sxX10_takesPart_b87 l0 ((10000 : Int32) + r9) (am_gi h l0 19) (am_gr h l0 18) h10) ⟨rfl, trivial⟩ (Nat.le_refl _) (Nat.le_refl _)
  refine am_aload_n dX10_takesPart_68 rfl ?_
  refine am_getI dX10_takesPart_69 fk_RX10_232 rfl ?_
  refine am_goto (tgt := 87) dX10_takesPart_72 (by decide) ?_
  exact am_weak (sxX10_takesPart_b87 l0 (am_gi h l0 13) (am_gi h l0 19) (am_gr h l0 18) h) ⟨rfl, trivial⟩ (Nat.le_refl _) (Nat.le_refl _)
def fxX10_takesPart_b37 (l0 : Option Nat) (s0 : Int32) (h : am_H) : Option (Int32 × am_H) := am_lt s0 (fun x6 => am_gd (am_ob h l0 10) (if (am_gi h l0 12) = (2 : Int32) then (fxX10_takesPart_b52 l0 h) else (if x6 = 0 then (am_gd (am_bz (0 : Int32)) (some ((0 : Int32), h))) else (fxX10_takesPart_b52 l0 h))))
set_option maxRecDepth 100000 in
theorem sxX10_takesPart_b37 {xs : List Int32} (l0 : Option Nat) (s0 : Int32) (h : am_H) : am_Sm xs am_ci mX10_takesPart 2 0 0 37 [some (am_R l0), none] [am_I s0] h (fxX10_takesPart_b37 l0 s0 h) := by
  unfold fxX10_takesPart_b37
  refine am_istore_n (LL := fun y9 => [some (am_R l0), some (am_I y9)]) dX10_takesPart_37 (by decide) (fun _ => rfl) (fun x6 => ?_)
  refine am_aload_n dX10_takesPart_38 rfl ?_
  refine am_getI dX10_takesPart_39 fk_RX10_226 rfl ?_
  refine am_iconst (v := 2) dX10_takesPart_42 (by decide) ?_
  refine am_icmp_eq (tgt := 52) dX10_takesPart_43 (by decide) (fun c8 => ?_) (fun c8 => ?_)
  · exact am_weak (sxX10_takesPart_b52 l0 h) ⟨rfl, trivial⟩ (Nat.le_refl _) (Nat.le_refl _)
  refine am_iload_n dX10_takesPart_46 rfl ?_
  refine am_if_ne (tgt := 52) dX10_takesPart_47 (by decide) (fun c7 => ?_) (fun c7 => ?_)
  · exact am_weak (sxX10_takesPart_b52 l0 h) ⟨rfl, trivial⟩ (Nat.le_refl _) (Nat.le_refl _)
  refine am_iconst (v := 0) dX10_takesPart_50 (by decide) ?_
  exact am_zret dX10_takesPart_51 rfl rfl
def fxX10_takesPart_b36 (l0 : Option Nat) (h : am_H) : Option (Int32 × am_H) := fxX10_takesPart_b37 l0 (0 : Int32) h
set_option maxRecDepth 100000 in
theorem sxX10_takesPart_b36 {xs : List Int32} (l0 : Option Nat) (h : am_H) : am_Sm xs am_ci mX10_takesPart 2 0 0 36 [some (am_R l0), none] [] h (fxX10_takesPart_b36 l0 h) := by
  unfold fxX10_takesPart_b36
  refine am_iconst (v := 0) dX10_takesPart_36 (by decide) ?_
  exact am_weak (sxX10_takesPart_b37 l0 (0 : Int32) h) ⟨rfl, trivial⟩ (Nat.le_refl _) (Nat.le_refl _)
def fxX10_takesPart (l0 : Option Nat) (h : am_H) : Option (Int32 × am_H) := am_gd (am_ob h l0 10) (if (am_gi h l0 12) = (1 : Int32) then (am_gd (am_ob h l0 10) (am_gd (am_ob h l0 10) (if ((am_gi h l0 10) - (am_gi h l0 11)) = (1 : Int32) then (am_gd (am_ob h l0 10) (am_gd (am_ob h l0 10) (am_bd (fxX10_nameOf l0 (am_gi h l0 13) h) (fun r1 h2 => if r1 < 0 then (fxX10_takesPart_b36 l0 h2) else (fxX10_takesPart_b37 l0 (1 : Int32) h2))))) else (fxX10_takesPart_b36 l0 h)))) else (fxX10_takesPart_b36 l0 h))
set_option maxRecDepth 100000 in
theorem sxX10_takesPart {xs : List Int32} (l0 : Option Nat) (h : am_H) : am_Sm xs am_ci mX10_takesPart 2 0 0 0 [some (am_R l0), none] [] h (fxX10_takesPart l0 h) := by
  unfold fxX10_takesPart
  refine am_aload_n dX10_takesPart_0 rfl ?_
  refine am_getI dX10_takesPart_1 fk_RX10_226 rfl ?_
  refine am_iconst (v := 1) dX10_takesPart_4 (by decide) ?_
  refine am_icmp_ne (tgt := 36) dX10_takesPart_5 (by decide) (fun c5 => ?_) (fun c5 => ?_)
  · exact am_weak (sxX10_takesPart_b36 l0 h) ⟨rfl, trivial⟩ (Nat.le_refl _) (Nat.le_refl _)
  refine am_aload_n dX10_takesPart_8 rfl ?_
  refine am_getI dX10_takesPart_9 fk_RX10_217 rfl ?_
  refine am_aload_n dX10_takesPart_12 rfl ?_
  refine am_getI dX10_takesPart_13 fk_RX10_220 rfl ?_
  refine am_isub dX10_takesPart_16 ?_
  refine am_iconst (v := 1) dX10_takesPart_17 (by decide) ?_
  refine am_icmp_ne (tgt := 36) dX10_takesPart_18 (by decide) (fun c4 => ?_) (fun c4 => ?_)
  · exact am_weak (sxX10_takesPart_b36 l0 h) ⟨rfl, trivial⟩ (Nat.le_refl _) (Nat.le_refl _)
  refine am_aload_n dX10_takesPart_21 rfl ?_
  refine am_aload_n dX10_takesPart_22 rfl ?_
  refine am_getI dX10_takesPart_23 fk_RX10_232 rfl ?_
  refine am_callV (cvj := am_ci) (mtj := mX10_nameOf) (dj := 0) (nj := 1) (rcj := 0) (rsj := 0) (rc' := 0) (rs' := 0) (ci := 10) (st' := fun a9 => (am_I a9 :: [])) ⟨_, rfl, rfl⟩ [am_I (am_gi h l0 13)] [] dX10_takesPart_26 okX10_nameOf lk_RX10_253 (fun zA zH zE => txX10_nameOf l0 (am_gi h l0 13) h zA zH zE) rfl (fun _ => rfl) (by decide) rfl (Nat.le_of_ble_eq_true rfl) (by decide) (by decide) (fun r1 h2 => ?_)
  refine am_if_lt (tgt := 36) dX10_takesPart_29 (by decide) (fun c3 => ?_) (fun c3 => ?_)
  · exact am_weak (sxX10_takesPart_b36 l0 h2) ⟨rfl, trivial⟩ (Nat.le_refl _) (Nat.le_refl _)
  refine am_iconst (v := 1) dX10_takesPart_32 (by decide) ?_
  refine am_goto (tgt := 37) dX10_takesPart_33 (by decide) ?_
  exact am_weak (sxX10_takesPart_b37 l0 (1 : Int32) h2) ⟨rfl, trivial⟩ (Nat.le_refl _) (Nat.le_refl _)
theorem txX10_takesPart {xs : List Int32} (l0 : Option Nat) (h : am_H) (a : Int32) (h2 : am_H) (e : fxX10_takesPart l0 h = some (a, h2)) : am_Ct xs mX10_takesPart 2 0 0 [am_R l0] h (fun v h3 => v = am_ci a ∧ h3 = h2) := am_meth okX10_takesPart (Nat.le_of_ble_eq_true rfl) rfl (sxX10_takesPart l0 h) e
theorem dX10_notsOpen_0 : am_at cX10_notsOpen 0 (.iconst 0) 1 1 := by decide +kernel
theorem dX10_notsOpen_1 : am_at cX10_notsOpen 1 (.istore_n 1) 1 2 := by decide +kernel
theorem dX10_notsOpen_2 : am_at cX10_notsOpen 2 (.iconst 0) 1 3 := by decide +kernel
theorem dX10_notsOpen_3 : am_at cX10_notsOpen 3 (.istore_n 2) 1 4 := by decide +kernel
theorem dX10_notsOpen_4 : am_at cX10_notsOpen 4 (.iload_n 2) 1 5 := by decide +kernel
theorem dX10_notsOpen_5 : am_at cX10_notsOpen 5 (.aload_n 0) 1 6 := by decide +kernel
theorem dX10_notsOpen_6 : am_at cX10_notsOpen 6 (.getfield 244) 3 9 := by decide +kernel
theorem dX10_notsOpen_9 : am_at cX10_notsOpen 9 (.if_icmp .ge 28) 3 12 := by decide +kernel
theorem dX10_notsOpen_12 : am_at cX10_notsOpen 12 (.iload_n 1) 1 13 := by decide +kernel
theorem dX10_notsOpen_13 : am_at cX10_notsOpen 13 (.aload_n 0) 1 14 := by decide +kernel
theorem dX10_notsOpen_14 : am_at cX10_notsOpen 14 (.getfield 44) 3 17 := by decide +kernel
theorem dX10_notsOpen_17 : am_at cX10_notsOpen 17 (.iload_n 2) 1 18 := by decide +kernel
theorem dX10_notsOpen_18 : am_at cX10_notsOpen 18 (.iaload) 1 19 := by decide +kernel
theorem dX10_notsOpen_19 : am_at cX10_notsOpen 19 (.bipush (-10)) 2 21 := by decide +kernel
theorem dX10_notsOpen_21 : am_at cX10_notsOpen 21 (.if_icmp .ne 7) 3 24 := by decide +kernel
theorem dX10_notsOpen_24 : am_at cX10_notsOpen 24 (.iconst 1) 1 25 := by decide +kernel
theorem dX10_notsOpen_25 : am_at cX10_notsOpen 25 (.goto 4) 3 28 := by decide +kernel
theorem dX10_notsOpen_28 : am_at cX10_notsOpen 28 (.iconst 0) 1 29 := by decide +kernel
theorem dX10_notsOpen_29 : am_at cX10_notsOpen 29 (.iadd) 1 30 := by decide +kernel
theorem dX10_notsOpen_30 : am_at cX10_notsOpen 30 (.istore_n 1) 1 31 := by decide +kernel
theorem dX10_notsOpen_31 : am_at cX10_notsOpen 31 (.iinc 2 1) 3 34 := by decide +kernel
theorem dX10_notsOpen_34 : am_at cX10_notsOpen 34 (.goto (-30)) 3 37 := by decide +kernel
theorem dX10_notsOpen_37 : am_at cX10_notsOpen 37 (.iload_n 1) 1 38 := by decide +kernel
theorem dX10_notsOpen_38 : am_at cX10_notsOpen 38 (.ireturn) 1 39 := by decide +kernel
def fxX10_notsOpen_b29 (k4 : Option Nat → Int32 → Int32 → am_H → Option (Int32 × am_H)) (l0 : Option Nat) (l2 : Int32) (s0 : Int32) (s1 : Int32) (h : am_H) : Option (Int32 × am_H) := am_lt (s1 + s0) (fun x5 => am_lt (l2 + 1) (fun x6 => k4 l0 x5 x6 h))
set_option maxRecDepth 100000 in
theorem sxX10_notsOpen_b29 {xs : List Int32} (k4 : Option Nat → Int32 → Int32 → am_H → Option (Int32 × am_H)) (hk4 : ∀ (l0 : Option Nat) (l1 : Int32) (l2 : Int32) (h : am_H), am_Sm xs am_ci mX10_notsOpen 0 0 0 4 [some (am_R l0), some (am_I l1), some (am_I l2)] [] h (k4 l0 l1 l2 h)) (l0 : Option Nat) (l2 : Int32) (s0 : Int32) (s1 : Int32) (h : am_H) : am_Sm xs am_ci mX10_notsOpen 0 0 0 29 [some (am_R l0), none, some (am_I l2)] [am_I s0, am_I s1] h (fxX10_notsOpen_b29 k4 l0 l2 s0 s1 h) := by
  unfold fxX10_notsOpen_b29
  refine am_iadd dX10_notsOpen_29 ?_
  refine am_istore_n (LL := fun y9 => [some (am_R l0), some (am_I y9), some (am_I l2)]) dX10_notsOpen_30 (by decide) (fun _ => rfl) (fun x5 => ?_)
  refine am_iinc (v := 1) (LL := fun y9 => [some (am_R l0), some (am_I x5), some (am_I y9)]) dX10_notsOpen_31 (by decide) rfl (by decide) (fun _ => rfl) (fun x6 => ?_)
  refine am_goto (tgt := 4) dX10_notsOpen_34 (by decide) ?_
  exact am_weak (hk4 l0 x5 x6 h) ⟨rfl, ⟨rfl, ⟨rfl, trivial⟩⟩⟩ (Nat.le_refl _) (Nat.le_refl _)
def fxX10_notsOpen_b4 : Nat → Option Nat → Int32 → Int32 → am_H → Option (Int32 × am_H)
  | 0, _, _, _, _ => none
  | n + 1, l0, l1, l2, h => am_gd (am_ob h l0 10) (if (am_gi h l0 22) ≤ l2 then (some (l1, h)) else (am_gd (am_ob h l0 10) (am_gd (am_ix h (am_gr h l0 21) 0 l2) (if (am_gi h (am_gr h l0 21) l2.toNatClampNeg) = (-10 : Int32) then (fxX10_notsOpen_b29 (fxX10_notsOpen_b4 n) l0 l2 (1 : Int32) l1 h) else (fxX10_notsOpen_b29 (fxX10_notsOpen_b4 n) l0 l2 (0 : Int32) l1 h)))))
set_option maxRecDepth 100000 in
theorem sxX10_notsOpen_b4 {xs : List Int32} : ∀ (n : Nat) (l0 : Option Nat) (l1 : Int32) (l2 : Int32) (h : am_H), am_Sm xs am_ci mX10_notsOpen 0 0 0 4 [some (am_R l0), some (am_I l1), some (am_I l2)] [] h (fxX10_notsOpen_b4 n l0 l1 l2 h) := by
  intro n
  induction n with
  | zero => intros; exact am_none
  | succ n ih =>
    intro l0 l1 l2 h
    rw [fxX10_notsOpen_b4]
    refine am_iload_n dX10_notsOpen_4 rfl ?_
    refine am_aload_n dX10_notsOpen_5 rfl ?_
    refine am_getI dX10_notsOpen_6 fk_RX10_244 rfl ?_
    refine am_icmp_ge (tgt := 37) dX10_notsOpen_9 (by decide) (fun c4 => ?_) (fun c4 => ?_)
    · refine am_iload_n dX10_notsOpen_37 rfl ?_
      exact am_iret dX10_notsOpen_38 rfl rfl
    refine am_iload_n dX10_notsOpen_12 rfl ?_
    refine am_aload_n dX10_notsOpen_13 rfl ?_
    refine am_getR dX10_notsOpen_14 fk_RX10_44 rfl ?_
    refine am_iload_n dX10_notsOpen_17 rfl ?_
    refine am_iald dX10_notsOpen_18 ?_
    refine am_bipush (v := (-10)) dX10_notsOpen_19 (by decide) ?_
    refine am_icmp_ne (tgt := 28) dX10_notsOpen_21 (by decide) (fun c3 => ?_) (fun c3 => ?_)
    · refine am_iconst (v := 0) dX10_notsOpen_28 (by decide) ?_
      exact am_weak (sxX10_notsOpen_b29 (fxX10_notsOpen_b4 n) ih l0 l2 (0 : Int32) l1 h) ⟨rfl, ⟨rfl, trivial⟩⟩ (Nat.le_refl _) (Nat.le_refl _)
    refine am_iconst (v := 1) dX10_notsOpen_24 (by decide) ?_
    refine am_goto (tgt := 29) dX10_notsOpen_25 (by decide) ?_
    exact am_weak (sxX10_notsOpen_b29 (fxX10_notsOpen_b4 n) ih l0 l2 (1 : Int32) l1 h) ⟨rfl, ⟨rfl, trivial⟩⟩ (Nat.le_refl _) (Nat.le_refl _)
def fxX10_notsOpen (l0 : Option Nat) (h : am_H) : Option (Int32 × am_H) := am_lt (0 : Int32) (fun x1 => am_lt (0 : Int32) (fun x2 => fxX10_notsOpen_b4 am_F l0 x1 x2 h))
set_option maxRecDepth 100000 in
theorem sxX10_notsOpen {xs : List Int32} (l0 : Option Nat) (h : am_H) : am_Sm xs am_ci mX10_notsOpen 0 0 0 0 [some (am_R l0), none, none] [] h (fxX10_notsOpen l0 h) := by
  unfold fxX10_notsOpen
  refine am_iconst (v := 0) dX10_notsOpen_0 (by decide) ?_
  refine am_istore_n (LL := fun y9 => [some (am_R l0), some (am_I y9), none]) dX10_notsOpen_1 (by decide) (fun _ => rfl) (fun x1 => ?_)
  refine am_iconst (v := 0) dX10_notsOpen_2 (by decide) ?_
  refine am_istore_n (LL := fun y9 => [some (am_R l0), some (am_I x1), some (am_I y9)]) dX10_notsOpen_3 (by decide) (fun _ => rfl) (fun x2 => ?_)
  exact am_weak (sxX10_notsOpen_b4 am_F l0 x1 x2 h) ⟨rfl, ⟨rfl, ⟨rfl, trivial⟩⟩⟩ (Nat.le_refl _) (Nat.le_refl _)
theorem txX10_notsOpen {xs : List Int32} (l0 : Option Nat) (h : am_H) (a : Int32) (h2 : am_H) (e : fxX10_notsOpen l0 h = some (a, h2)) : am_Ct xs mX10_notsOpen 0 0 0 [am_R l0] h (fun v h3 => v = am_ci a ∧ h3 = h2) := am_meth okX10_notsOpen (Nat.le_of_ble_eq_true rfl) rfl (sxX10_notsOpen l0 h) e
theorem dX10_takesE_0 : am_at cX10_takesE 0 (.iconst 0) 1 1 := by decide +kernel
theorem dX10_takesE_1 : am_at cX10_takesE 1 (.istore_n 1) 1 2 := by decide +kernel
theorem dX10_takesE_2 : am_at cX10_takesE 2 (.iconst 0) 1 3 := by decide +kernel
theorem dX10_takesE_3 : am_at cX10_takesE 3 (.istore_n 2) 1 4 := by decide +kernel
theorem dX10_takesE_4 : am_at cX10_takesE 4 (.iconst 1) 1 5 := by decide +kernel
theorem dX10_takesE_5 : am_at cX10_takesE 5 (.istore_n 3) 1 6 := by decide +kernel
theorem dX10_takesE_6 : am_at cX10_takesE 6 (.aload_n 0) 1 7 := by decide +kernel
theorem dX10_takesE_7 : am_at cX10_takesE 7 (.iconst 0) 1 8 := by decide +kernel
theorem dX10_takesE_8 : am_at cX10_takesE 8 (.putfield 250) 3 11 := by decide +kernel
theorem dX10_takesE_11 : am_at cX10_takesE 11 (.aload_n 0) 1 12 := by decide +kernel
theorem dX10_takesE_12 : am_at cX10_takesE 12 (.iconst 0) 1 13 := by decide +kernel
theorem dX10_takesE_13 : am_at cX10_takesE 13 (.putfield 256) 3 16 := by decide +kernel
theorem dX10_takesE_16 : am_at cX10_takesE 16 (.aload_n 0) 1 17 := by decide +kernel
theorem dX10_takesE_17 : am_at cX10_takesE 17 (.iconst 0) 1 18 := by decide +kernel
theorem dX10_takesE_18 : am_at cX10_takesE 18 (.putfield 244) 3 21 := by decide +kernel
theorem dX10_takesE_21 : am_at cX10_takesE 21 (.aload_n 0) 1 22 := by decide +kernel
theorem dX10_takesE_22 : am_at cX10_takesE 22 (.getfield 47) 3 25 := by decide +kernel
theorem dX10_takesE_25 : am_at cX10_takesE 25 (.iconst 0) 1 26 := by decide +kernel
theorem dX10_takesE_26 : am_at cX10_takesE 26 (.iconst 0) 1 27 := by decide +kernel
theorem dX10_takesE_27 : am_at cX10_takesE 27 (.bastore) 1 28 := by decide +kernel
theorem dX10_takesE_28 : am_at cX10_takesE 28 (.iload_n 3) 1 29 := by decide +kernel
theorem dX10_takesE_29 : am_at cX10_takesE 29 (.ifCond .ne 10) 3 32 := by decide +kernel
theorem dX10_takesE_32 : am_at cX10_takesE 32 (.aload_n 0) 1 33 := by decide +kernel
theorem dX10_takesE_33 : am_at cX10_takesE 33 (.getfield 226) 3 36 := by decide +kernel
theorem dX10_takesE_36 : am_at cX10_takesE 36 (.ifCond .eq 309) 3 39 := by decide +kernel
theorem dX10_takesE_39 : am_at cX10_takesE 39 (.iload_n 3) 1 40 := by decide +kernel
theorem dX10_takesE_40 : am_at cX10_takesE 40 (.ifCond .eq 140) 3 43 := by decide +kernel
theorem dX10_takesE_43 : am_at cX10_takesE 43 (.aload_n 0) 1 44 := by decide +kernel
theorem dX10_takesE_44 : am_at cX10_takesE 44 (.getfield 226) 3 47 := by decide +kernel
theorem dX10_takesE_47 : am_at cX10_takesE 47 (.iconst 3) 1 48 := by decide +kernel
theorem dX10_takesE_48 : am_at cX10_takesE 48 (.if_icmp .ne 49) 3 51 := by decide +kernel
theorem dX10_takesE_51 : am_at cX10_takesE 51 (.aload_n 0) 1 52 := by decide +kernel
theorem dX10_takesE_52 : am_at cX10_takesE 52 (.getfield 232) 3 55 := by decide +kernel
theorem dX10_takesE_55 : am_at cX10_takesE 55 (.bipush 33) 2 57 := by decide +kernel
theorem dX10_takesE_57 : am_at cX10_takesE 57 (.if_icmp .ne 40) 3 60 := by decide +kernel
theorem dX10_takesE_60 : am_at cX10_takesE 60 (.iload_n 2) 1 61 := by decide +kernel
theorem dX10_takesE_61 : am_at cX10_takesE 61 (.bipush 8) 2 63 := by decide +kernel
theorem dX10_takesE_63 : am_at cX10_takesE 63 (.if_icmp .ge 34) 3 66 := by decide +kernel
theorem dX10_takesE_66 : am_at cX10_takesE 66 (.aload_n 0) 1 67 := by decide +kernel
theorem dX10_takesE_67 : am_at cX10_takesE 67 (.getfield 44) 3 70 := by decide +kernel
theorem dX10_takesE_70 : am_at cX10_takesE 70 (.aload_n 0) 1 71 := by decide +kernel
theorem dX10_takesE_71 : am_at cX10_takesE 71 (.getfield 244) 3 74 := by decide +kernel
theorem dX10_takesE_74 : am_at cX10_takesE 74 (.bipush (-10)) 2 76 := by decide +kernel
theorem dX10_takesE_76 : am_at cX10_takesE 76 (.iastore) 1 77 := by decide +kernel
theorem dX10_takesE_77 : am_at cX10_takesE 77 (.aload_n 0) 1 78 := by decide +kernel
theorem dX10_takesE_78 : am_at cX10_takesE 78 (.dup) 1 79 := by decide +kernel
theorem dX10_takesE_79 : am_at cX10_takesE 79 (.getfield 244) 3 82 := by decide +kernel
theorem dX10_takesE_82 : am_at cX10_takesE 82 (.iconst 1) 1 83 := by decide +kernel
theorem dX10_takesE_83 : am_at cX10_takesE 83 (.iadd) 1 84 := by decide +kernel
theorem dX10_takesE_84 : am_at cX10_takesE 84 (.putfield 244) 3 87 := by decide +kernel
theorem dX10_takesE_87 : am_at cX10_takesE 87 (.iinc 2 1) 3 90 := by decide +kernel
theorem dX10_takesE_90 : am_at cX10_takesE 90 (.aload_n 0) 1 91 := by decide +kernel
theorem dX10_takesE_91 : am_at cX10_takesE 91 (.invokevirtual 241) 3 94 := by decide +kernel
theorem dX10_takesE_94 : am_at cX10_takesE 94 (.goto 78) 3 97 := by decide +kernel
theorem dX10_takesE_97 : am_at cX10_takesE 97 (.aload_n 0) 1 98 := by decide +kernel
theorem dX10_takesE_98 : am_at cX10_takesE 98 (.getfield 226) 3 101 := by decide +kernel
theorem dX10_takesE_101 : am_at cX10_takesE 101 (.iconst 3) 1 102 := by decide +kernel
theorem dX10_takesE_102 : am_at cX10_takesE 102 (.if_icmp .ne 56) 3 105 := by decide +kernel
theorem dX10_takesE_105 : am_at cX10_takesE 105 (.aload_n 0) 1 106 := by decide +kernel
theorem dX10_takesE_106 : am_at cX10_takesE 106 (.getfield 232) 3 109 := by decide +kernel
theorem dX10_takesE_109 : am_at cX10_takesE 109 (.bipush 40) 2 111 := by decide +kernel
theorem dX10_takesE_111 : am_at cX10_takesE 111 (.if_icmp .ne 47) 3 114 := by decide +kernel
theorem dX10_takesE_114 : am_at cX10_takesE 114 (.iload_n 1) 1 115 := by decide +kernel
theorem dX10_takesE_115 : am_at cX10_takesE 115 (.bipush 8) 2 117 := by decide +kernel
theorem dX10_takesE_117 : am_at cX10_takesE 117 (.if_icmp .ge 41) 3 120 := by decide +kernel
theorem dX10_takesE_120 : am_at cX10_takesE 120 (.aload_n 0) 1 121 := by decide +kernel
theorem dX10_takesE_121 : am_at cX10_takesE 121 (.getfield 44) 3 124 := by decide +kernel
theorem dX10_takesE_124 : am_at cX10_takesE 124 (.aload_n 0) 1 125 := by decide +kernel
theorem dX10_takesE_125 : am_at cX10_takesE 125 (.getfield 244) 3 128 := by decide +kernel
theorem dX10_takesE_128 : am_at cX10_takesE 128 (.bipush (-11)) 2 130 := by decide +kernel
theorem dX10_takesE_130 : am_at cX10_takesE 130 (.iastore) 1 131 := by decide +kernel
theorem dX10_takesE_131 : am_at cX10_takesE 131 (.aload_n 0) 1 132 := by decide +kernel
theorem dX10_takesE_132 : am_at cX10_takesE 132 (.dup) 1 133 := by decide +kernel
theorem dX10_takesE_133 : am_at cX10_takesE 133 (.getfield 244) 3 136 := by decide +kernel
theorem dX10_takesE_136 : am_at cX10_takesE 136 (.iconst 1) 1 137 := by decide +kernel
theorem dX10_takesE_137 : am_at cX10_takesE 137 (.iadd) 1 138 := by decide +kernel
theorem dX10_takesE_138 : am_at cX10_takesE 138 (.putfield 244) 3 141 := by decide +kernel
theorem dX10_takesE_141 : am_at cX10_takesE 141 (.iinc 1 1) 3 144 := by decide +kernel
theorem dX10_takesE_144 : am_at cX10_takesE 144 (.aload_n 0) 1 145 := by decide +kernel
theorem dX10_takesE_145 : am_at cX10_takesE 145 (.getfield 47) 3 148 := by decide +kernel
theorem dX10_takesE_148 : am_at cX10_takesE 148 (.iload_n 1) 1 149 := by decide +kernel
theorem dX10_takesE_149 : am_at cX10_takesE 149 (.iconst 0) 1 150 := by decide +kernel
theorem dX10_takesE_150 : am_at cX10_takesE 150 (.bastore) 1 151 := by decide +kernel
theorem dX10_takesE_151 : am_at cX10_takesE 151 (.aload_n 0) 1 152 := by decide +kernel
theorem dX10_takesE_152 : am_at cX10_takesE 152 (.invokevirtual 241) 3 155 := by decide +kernel
theorem dX10_takesE_155 : am_at cX10_takesE 155 (.goto 17) 3 158 := by decide +kernel
theorem dX10_takesE_158 : am_at cX10_takesE 158 (.aload_n 0) 1 159 := by decide +kernel
theorem dX10_takesE_159 : am_at cX10_takesE 159 (.invokevirtual 263) 3 162 := by decide +kernel
theorem dX10_takesE_162 : am_at cX10_takesE 162 (.ifCond .eq 8) 3 165 := by decide +kernel
theorem dX10_takesE_165 : am_at cX10_takesE 165 (.iconst 0) 1 166 := by decide +kernel
theorem dX10_takesE_166 : am_at cX10_takesE 166 (.istore_n 3) 1 167 := by decide +kernel
theorem dX10_takesE_167 : am_at cX10_takesE 167 (.goto 5) 3 170 := by decide +kernel
theorem dX10_takesE_170 : am_at cX10_takesE 170 (.iconst 0) 1 171 := by decide +kernel
theorem dX10_takesE_171 : am_at cX10_takesE 171 (.ireturn) 1 172 := by decide +kernel
theorem dX10_takesE_172 : am_at cX10_takesE 172 (.aload_n 0) 1 173 := by decide +kernel
theorem dX10_takesE_173 : am_at cX10_takesE 173 (.invokevirtual 267) 3 176 := by decide +kernel
theorem dX10_takesE_176 : am_at cX10_takesE 176 (.istore_n 2) 1 177 := by decide +kernel
theorem dX10_takesE_177 : am_at cX10_takesE 177 (.goto (-149)) 3 180 := by decide +kernel
theorem dX10_takesE_180 : am_at cX10_takesE 180 (.aload_n 0) 1 181 := by decide +kernel
theorem dX10_takesE_181 : am_at cX10_takesE 181 (.getfield 226) 3 184 := by decide +kernel
theorem dX10_takesE_184 : am_at cX10_takesE 184 (.iconst 3) 1 185 := by decide +kernel
theorem dX10_takesE_185 : am_at cX10_takesE 185 (.if_icmp .ne 52) 3 188 := by decide +kernel
theorem dX10_takesE_188 : am_at cX10_takesE 188 (.aload_n 0) 1 189 := by decide +kernel
theorem dX10_takesE_189 : am_at cX10_takesE 189 (.getfield 232) 3 192 := by decide +kernel
theorem dX10_takesE_192 : am_at cX10_takesE 192 (.bipush 41) 2 194 := by decide +kernel
theorem dX10_takesE_194 : am_at cX10_takesE 194 (.if_icmp .ne 43) 3 197 := by decide +kernel
theorem dX10_takesE_197 : am_at cX10_takesE 197 (.iload_n 1) 1 198 := by decide +kernel
theorem dX10_takesE_198 : am_at cX10_takesE 198 (.ifCond .le 39) 3 201 := by decide +kernel
theorem dX10_takesE_201 : am_at cX10_takesE 201 (.aload_n 0) 1 202 := by decide +kernel
theorem dX10_takesE_202 : am_at cX10_takesE 202 (.iconst 0) 1 203 := by decide +kernel
theorem dX10_takesE_203 : am_at cX10_takesE 203 (.invokevirtual 259) 3 206 := by decide +kernel
theorem dX10_takesE_206 : am_at cX10_takesE 206 (.aload_n 0) 1 207 := by decide +kernel
theorem dX10_takesE_207 : am_at cX10_takesE 207 (.dup) 1 208 := by decide +kernel
theorem dX10_takesE_208 : am_at cX10_takesE 208 (.getfield 244) 3 211 := by decide +kernel
theorem dX10_takesE_211 : am_at cX10_takesE 211 (.iconst 1) 1 212 := by decide +kernel
theorem dX10_takesE_212 : am_at cX10_takesE 212 (.isub) 1 213 := by decide +kernel
theorem dX10_takesE_213 : am_at cX10_takesE 213 (.putfield 244) 3 216 := by decide +kernel
theorem dX10_takesE_216 : am_at cX10_takesE 216 (.iinc 1 (-1)) 3 219 := by decide +kernel
theorem dX10_takesE_219 : am_at cX10_takesE 219 (.aload_n 0) 1 220 := by decide +kernel
theorem dX10_takesE_220 : am_at cX10_takesE 220 (.bipush 6) 2 222 := by decide +kernel
theorem dX10_takesE_222 : am_at cX10_takesE 222 (.invokevirtual 259) 3 225 := by decide +kernel
theorem dX10_takesE_225 : am_at cX10_takesE 225 (.aload_n 0) 1 226 := by decide +kernel
theorem dX10_takesE_226 : am_at cX10_takesE 226 (.invokevirtual 267) 3 229 := by decide +kernel
theorem dX10_takesE_229 : am_at cX10_takesE 229 (.istore_n 2) 1 230 := by decide +kernel
theorem dX10_takesE_230 : am_at cX10_takesE 230 (.aload_n 0) 1 231 := by decide +kernel
theorem dX10_takesE_231 : am_at cX10_takesE 231 (.invokevirtual 241) 3 234 := by decide +kernel
theorem dX10_takesE_234 : am_at cX10_takesE 234 (.goto (-206)) 3 237 := by decide +kernel
theorem dX10_takesE_237 : am_at cX10_takesE 237 (.aload_n 0) 1 238 := by decide +kernel
theorem dX10_takesE_238 : am_at cX10_takesE 238 (.invokevirtual 270) 3 241 := by decide +kernel
theorem dX10_takesE_241 : am_at cX10_takesE 241 (.istore 4) 2 243 := by decide +kernel
theorem dX10_takesE_243 : am_at cX10_takesE 243 (.iload 4) 2 245 := by decide +kernel
theorem dX10_takesE_245 : am_at cX10_takesE 245 (.ifCond .eq 21) 3 248 := by decide +kernel
theorem dX10_takesE_248 : am_at cX10_takesE 248 (.iload 4) 2 250 := by decide +kernel
theorem dX10_takesE_250 : am_at cX10_takesE 250 (.invokestatic 247) 3 253 := by decide +kernel
theorem dX10_takesE_253 : am_at cX10_takesE 253 (.iconst 3) 1 254 := by decide +kernel
theorem dX10_takesE_254 : am_at cX10_takesE 254 (.if_icmp .ne 14) 3 257 := by decide +kernel
theorem dX10_takesE_257 : am_at cX10_takesE 257 (.aload_n 0) 1 258 := by decide +kernel
theorem dX10_takesE_258 : am_at cX10_takesE 258 (.getfield 47) 3 261 := by decide +kernel
theorem dX10_takesE_261 : am_at cX10_takesE 261 (.iload_n 1) 1 262 := by decide +kernel
theorem dX10_takesE_262 : am_at cX10_takesE 262 (.baload) 1 263 := by decide +kernel
theorem dX10_takesE_263 : am_at cX10_takesE 263 (.ifCond .eq 5) 3 266 := by decide +kernel
theorem dX10_takesE_266 : am_at cX10_takesE 266 (.iconst 0) 1 267 := by decide +kernel
theorem dX10_takesE_267 : am_at cX10_takesE 267 (.ireturn) 1 268 := by decide +kernel
theorem dX10_takesE_268 : am_at cX10_takesE 268 (.aload_n 0) 1 269 := by decide +kernel
theorem dX10_takesE_269 : am_at cX10_takesE 269 (.getfield 47) 3 272 := by decide +kernel
theorem dX10_takesE_272 : am_at cX10_takesE 272 (.iload_n 1) 1 273 := by decide +kernel
theorem dX10_takesE_273 : am_at cX10_takesE 273 (.iload 4) 2 275 := by decide +kernel
theorem dX10_takesE_275 : am_at cX10_takesE 275 (.invokestatic 247) 3 278 := by decide +kernel
theorem dX10_takesE_278 : am_at cX10_takesE 278 (.iconst 3) 1 279 := by decide +kernel
theorem dX10_takesE_279 : am_at cX10_takesE 279 (.if_icmp .eq 21) 3 282 := by decide +kernel
theorem dX10_takesE_282 : am_at cX10_takesE 282 (.iload 4) 2 284 := by decide +kernel
theorem dX10_takesE_284 : am_at cX10_takesE 284 (.invokestatic 247) 3 287 := by decide +kernel
theorem dX10_takesE_287 : am_at cX10_takesE 287 (.iconst 3) 1 288 := by decide +kernel
theorem dX10_takesE_288 : am_at cX10_takesE 288 (.if_icmp .le 16) 3 291 := by decide +kernel
theorem dX10_takesE_291 : am_at cX10_takesE 291 (.aload_n 0) 1 292 := by decide +kernel
theorem dX10_takesE_292 : am_at cX10_takesE 292 (.getfield 47) 3 295 := by decide +kernel
theorem dX10_takesE_295 : am_at cX10_takesE 295 (.iload_n 1) 1 296 := by decide +kernel
theorem dX10_takesE_296 : am_at cX10_takesE 296 (.baload) 1 297 := by decide +kernel
theorem dX10_takesE_297 : am_at cX10_takesE 297 (.ifCond .eq 7) 3 300 := by decide +kernel
theorem dX10_takesE_300 : am_at cX10_takesE 300 (.iconst 1) 1 301 := by decide +kernel
theorem dX10_takesE_301 : am_at cX10_takesE 301 (.goto 4) 3 304 := by decide +kernel
theorem dX10_takesE_304 : am_at cX10_takesE 304 (.iconst 0) 1 305 := by decide +kernel
theorem dX10_takesE_305 : am_at cX10_takesE 305 (.bastore) 1 306 := by decide +kernel
theorem dX10_takesE_306 : am_at cX10_takesE 306 (.aload_n 0) 1 307 := by decide +kernel
theorem dX10_takesE_307 : am_at cX10_takesE 307 (.iload 4) 2 309 := by decide +kernel
theorem dX10_takesE_309 : am_at cX10_takesE 309 (.invokestatic 247) 3 312 := by decide +kernel
theorem dX10_takesE_312 : am_at cX10_takesE 312 (.invokevirtual 259) 3 315 := by decide +kernel
theorem dX10_takesE_315 : am_at cX10_takesE 315 (.aload_n 0) 1 316 := by decide +kernel
theorem dX10_takesE_316 : am_at cX10_takesE 316 (.getfield 44) 3 319 := by decide +kernel
theorem dX10_takesE_319 : am_at cX10_takesE 319 (.aload_n 0) 1 320 := by decide +kernel
theorem dX10_takesE_320 : am_at cX10_takesE 320 (.getfield 244) 3 323 := by decide +kernel
theorem dX10_takesE_323 : am_at cX10_takesE 323 (.iload 4) 2 325 := by decide +kernel
theorem dX10_takesE_325 : am_at cX10_takesE 325 (.iastore) 1 326 := by decide +kernel
theorem dX10_takesE_326 : am_at cX10_takesE 326 (.aload_n 0) 1 327 := by decide +kernel
theorem dX10_takesE_327 : am_at cX10_takesE 327 (.dup) 1 328 := by decide +kernel
theorem dX10_takesE_328 : am_at cX10_takesE 328 (.getfield 244) 3 331 := by decide +kernel
theorem dX10_takesE_331 : am_at cX10_takesE 331 (.iconst 1) 1 332 := by decide +kernel
theorem dX10_takesE_332 : am_at cX10_takesE 332 (.iadd) 1 333 := by decide +kernel
theorem dX10_takesE_333 : am_at cX10_takesE 333 (.putfield 244) 3 336 := by decide +kernel
theorem dX10_takesE_336 : am_at cX10_takesE 336 (.iconst 1) 1 337 := by decide +kernel
theorem dX10_takesE_337 : am_at cX10_takesE 337 (.istore_n 3) 1 338 := by decide +kernel
theorem dX10_takesE_338 : am_at cX10_takesE 338 (.aload_n 0) 1 339 := by decide +kernel
theorem dX10_takesE_339 : am_at cX10_takesE 339 (.invokevirtual 241) 3 342 := by decide +kernel
theorem dX10_takesE_342 : am_at cX10_takesE 342 (.goto (-314)) 3 345 := by decide +kernel
theorem dX10_takesE_345 : am_at cX10_takesE 345 (.aload_n 0) 1 346 := by decide +kernel
theorem dX10_takesE_346 : am_at cX10_takesE 346 (.iconst 0) 1 347 := by decide +kernel
theorem dX10_takesE_347 : am_at cX10_takesE 347 (.invokevirtual 259) 3 350 := by decide +kernel
theorem dX10_takesE_350 : am_at cX10_takesE 350 (.iload_n 1) 1 351 := by decide +kernel
theorem dX10_takesE_351 : am_at cX10_takesE 351 (.ifCond .ne 7) 3 354 := by decide +kernel
theorem dX10_takesE_354 : am_at cX10_takesE 354 (.iconst 1) 1 355 := by decide +kernel
theorem dX10_takesE_355 : am_at cX10_takesE 355 (.goto 4) 3 358 := by decide +kernel
theorem dX10_takesE_358 : am_at cX10_takesE 358 (.iconst 0) 1 359 := by decide +kernel
theorem dX10_takesE_359 : am_at cX10_takesE 359 (.ireturn) 1 360 := by decide +kernel
def fxX10_takesE_b172 (k28 : Option Nat → Int32 → Int32 → Int32 → am_H → Option (Int32 × am_H)) (l0 : Option Nat) (l1 : Int32) (l3 : Int32) (h : am_H) : Option (Int32 × am_H) := am_gd (am_ob h l0 10) (am_bd (fxX10_notsOpen l0 h) (fun r47 h48 => am_lt r47 (fun x49 => k28 l0 l1 x49 l3 h48)))
set_option maxRecDepth 100000 in
theorem sxX10_takesE_b172 {xs : List Int32} (k28 : Option Nat → Int32 → Int32 → Int32 → am_H → Option (Int32 × am_H)) (hk28 : ∀ (l0 : Option Nat) (l1 : Int32) (l2 : Int32) (l3 : Int32) (h : am_H), am_Sm xs am_ci mX10_takesE 3 0 0 28 [some (am_R l0), some (am_I l1), some (am_I l2), some (am_I l3), none] [] h (k28 l0 l1 l2 l3 h)) (l0 : Option Nat) (l1 : Int32) (l3 : Int32) (h : am_H) : am_Sm xs am_ci mX10_takesE 3 0 0 172 [some (am_R l0), some (am_I l1), none, some (am_I l3), none] [] h (fxX10_takesE_b172 k28 l0 l1 l3 h) := by
  unfold fxX10_takesE_b172
  refine am_aload_n dX10_takesE_172 rfl ?_
  refine am_callV (cvj := am_ci) (mtj := mX10_notsOpen) (dj := 0) (nj := 0) (rcj := 0) (rsj := 0) (rc' := 0) (rs' := 0) (ci := 10) (st' := fun a9 => (am_I a9 :: [])) ⟨_, rfl, rfl⟩ [] [] dX10_takesE_173 okX10_notsOpen lk_RX10_267 (fun zA zH zE => txX10_notsOpen l0 h zA zH zE) rfl (fun _ => rfl) (by decide) rfl (Nat.le_of_ble_eq_true rfl) (by decide) (by decide) (fun r47 h48 => ?_)
  refine am_istore_n (LL := fun y9 => [some (am_R l0), some (am_I l1), some (am_I y9), some (am_I l3), none]) dX10_takesE_176 (by decide) (fun _ => rfl) (fun x49 => ?_)
  refine am_goto (tgt := 28) dX10_takesE_177 (by decide) ?_
  exact am_weak (hk28 l0 l1 x49 l3 h48) ⟨rfl, ⟨rfl, ⟨rfl, ⟨rfl, trivial⟩⟩⟩⟩ (Nat.le_refl _) (Nat.le_refl _)
def fxX10_takesE_b158 (k28 : Option Nat → Int32 → Int32 → Int32 → am_H → Option (Int32 × am_H)) (l0 : Option Nat) (l1 : Int32) (h : am_H) : Option (Int32 × am_H) := am_gd (am_ob h l0 10) (am_bd (fxX10_takesPart l0 h) (fun r57 h58 => if r57 = 0 then (am_gd (am_bz (0 : Int32)) (some ((0 : Int32), h58))) else (am_lt (0 : Int32) (fun x59 => fxX10_takesE_b172 k28 l0 l1 x59 h58))))
set_option maxRecDepth 100000 in
theorem sxX10_takesE_b158 {xs : List Int32} (k28 : Option Nat → Int32 → Int32 → Int32 → am_H → Option (Int32 × am_H)) (hk28 : ∀ (l0 : Option Nat) (l1 : Int32) (l2 : Int32) (l3 : Int32) (h : am_H), am_Sm xs am_ci mX10_takesE 3 0 0 28 [some (am_R l0), some (am_I l1), some (am_I l2), some (am_I l3), none] [] h (k28 l0 l1 l2 l3 h)) (l0 : Option Nat) (l1 : Int32) (h : am_H) : am_Sm xs am_ci mX10_takesE 3 0 0 158 [some (am_R l0), some (am_I l1), none, none, none] [] h (fxX10_takesE_b158 k28 l0 l1 h) := by
  unfold fxX10_takesE_b158
  refine am_aload_n dX10_takesE_158 rfl ?_
  refine am_callV (cvj := am_ci) (mtj := mX10_takesPart) (dj := 2) (nj := 0) (rcj := 0) (rsj := 0) (rc' := 0) (rs' := 0) (ci := 10) (st' := fun a9 => (am_I a9 :: [])) ⟨_, rfl, rfl⟩ [] [] dX10_takesE_159 okX10_takesPart lk_RX10_263 (fun zA zH zE => txX10_takesPart l0 h zA zH zE) rfl (fun _ => rfl) (by decide) rfl (Nat.le_of_ble_eq_true rfl) (by decide) (by decide) (fun r57 h58 => ?_)
  refine am_if_eq (tgt := 170) dX10_takesE_162 (by decide) (fun c60 => ?_) (fun c60 => ?_)
  · refine am_iconst (v := 0) dX10_takesE_170 (by decide) ?_
    exact am_zret dX10_takesE_171 rfl rfl
  refine am_iconst (v := 0) dX10_takesE_165 (by decide) ?_
  refine am_istore_n (LL := fun y9 => [some (am_R l0), some (am_I l1), none, some (am_I y9), none]) dX10_takesE_166 (by decide) (fun _ => rfl) (fun x59 => ?_)
  refine am_goto (tgt := 172) dX10_takesE_167 (by decide) ?_
  exact am_weak (sxX10_takesE_b172 k28 hk28 l0 l1 x59 h58) ⟨rfl, ⟨rfl, ⟨rfl, trivial⟩⟩⟩ (Nat.le_refl _) (Nat.le_refl _)
def fxX10_takesE_b97 (k28 : Option Nat → Int32 → Int32 → Int32 → am_H → Option (Int32 × am_H)) (l0 : Option Nat) (l1 : Int32) (l3 : Int32) (h : am_H) : Option (Int32 × am_H) := am_gd (am_ob h l0 10) (if (am_gi h l0 12) = (3 : Int32) then (am_gd (am_ob h l0 10) (if (am_gi h l0 13) = (40 : Int32) then (if (8 : Int32) ≤ l1 then (fxX10_takesE_b158 k28 l0 l1 h) else (am_gd (am_ob h l0 10) (am_gd (am_ob h l0 10) (am_gd (am_ix h (am_gr h l0 21) 0 (am_gi h l0 22)) (am_lt (am_si h (am_gr h l0 21) (am_gi h l0 22).toNatClampNeg (-11 : Int32)) (fun h39 => am_gd (am_ob h39 l0 10) (am_gd (am_ob h39 l0 10) (am_lt (am_si h39 l0 22 ((am_gi h39 l0 22) + (1 : Int32))) (fun h40 => am_lt (l1 + 1) (fun x41 => am_gd (am_ob h40 l0 10) (am_gd (am_ix h40 (am_gr h40 l0 23) 2 x41 && am_bz (0 : Int32)) (am_lt (am_si h40 (am_gr h40 l0 23) x41.toNatClampNeg (0 : Int32)) (fun h42 => am_gd (am_ob h42 l0 10) (am_bd (fxX10_go l0 h42) (fun _ h43 => fxX10_takesE_b172 k28 l0 x41 l3 h43))))))))))))))) else (fxX10_takesE_b158 k28 l0 l1 h))) else (fxX10_takesE_b158 k28 l0 l1 h))
set_option maxRecDepth 100000 in
theorem sxX10_takesE_b97 {xs : List Int32} (k28 : Option Nat → Int32 → Int32 → Int32 → am_H → Option (Int32 × am_H)) (hk28 : ∀ (l0 : Option Nat) (l1 : Int32) (l2 : Int32) (l3 : Int32) (h : am_H), am_Sm xs am_ci mX10_takesE 3 0 0 28 [some (am_R l0), some (am_I l1), some (am_I l2), some (am_I l3), none] [] h (k28 l0 l1 l2 l3 h)) (l0 : Option Nat) (l1 : Int32) (l3 : Int32) (h : am_H) : am_Sm xs am_ci mX10_takesE 3 0 0 97 [some (am_R l0), some (am_I l1), none, some (am_I l3), none] [] h (fxX10_takesE_b97 k28 l0 l1 l3 h) := by
  unfold fxX10_takesE_b97
  refine am_aload_n dX10_takesE_97 rfl ?_
  refine am_getI dX10_takesE_98 fk_RX10_226 rfl ?_
  refine am_iconst (v := 3) dX10_takesE_101 (by decide) ?_
  refine am_icmp_ne (tgt := 158) dX10_takesE_102 (by decide) (fun c46 => ?_) (fun c46 => ?_)
  · exact am_weak (sxX10_takesE_b158 k28 hk28 l0 l1 h) ⟨rfl, ⟨rfl, trivial⟩⟩ (Nat.le_refl _) (Nat.le_refl _)
  refine am_aload_n dX10_takesE_105 rfl ?_
  refine am_getI dX10_takesE_106 fk_RX10_232 rfl ?_
  refine am_bipush (v := 40) dX10_takesE_109 (by decide) ?_
  refine am_icmp_ne (tgt := 158) dX10_takesE_111 (by decide) (fun c45 => ?_) (fun c45 => ?_)
  · exact am_weak (sxX10_takesE_b158 k28 hk28 l0 l1 h) ⟨rfl, ⟨rfl, trivial⟩⟩ (Nat.le_refl _) (Nat.le_refl _)
  refine am_iload_n dX10_takesE_114 rfl ?_
  refine am_bipush (v := 8) dX10_takesE_115 (by decide) ?_
  refine am_icmp_ge (tgt := 158) dX10_takesE_117 (by decide) (fun c44 => ?_) (fun c44 => ?_)
  · exact am_weak (sxX10_takesE_b158 k28 hk28 l0 l1 h) ⟨rfl, ⟨rfl, trivial⟩⟩ (Nat.le_refl _) (Nat.le_refl _)
  refine am_aload_n dX10_takesE_120 rfl ?_
  refine am_getR dX10_takesE_121 fk_RX10_44 rfl ?_
  refine am_aload_n dX10_takesE_124 rfl ?_
  refine am_getI dX10_takesE_125 fk_RX10_244 rfl ?_
  refine am_bipush (v := (-11)) dX10_takesE_128 (by decide) ?_
  refine am_iast dX10_takesE_130 (fun h39 => ?_)
  refine am_aload_n dX10_takesE_131 rfl ?_
  refine am_dup dX10_takesE_132 ?_
  refine am_getI dX10_takesE_133 fk_RX10_244 rfl ?_
  refine am_iconst (v := 1) dX10_takesE_136 (by decide) ?_
  refine am_iadd dX10_takesE_137 ?_
  refine am_putI dX10_takesE_138 fk_RX10_244 ⟨_, rfl, Or.inl rfl⟩ rfl (fun h40 => ?_)
  refine am_iinc (v := 1) (LL := fun y9 => [some (am_R l0), some (am_I y9), none, some (am_I l3), none]) dX10_takesE_141 (by decide) rfl (by decide) (fun _ => rfl) (fun x41 => ?_)
  refine am_aload_n dX10_takesE_144 rfl ?_
  refine am_getR dX10_takesE_145 fk_RX10_47 rfl ?_
  refine am_iload_n dX10_takesE_148 rfl ?_
  refine am_iconst (v := 0) dX10_takesE_149 (by decide) ?_
  refine am_zast dX10_takesE_150 (fun h42 => ?_)
  refine am_aload_n dX10_takesE_151 rfl ?_
  refine am_callV (cvj := am_cu) (mtj := mX10_go) (dj := 1) (nj := 0) (rcj := 0) (rsj := 0) (rc' := 0) (rs' := 0) (ci := 10) (st' := fun _ => []) ⟨_, rfl, rfl⟩ [] [] dX10_takesE_152 okX10_go lk_RX10_241 (fun zA zH zE => txX10_go l0 h42 zA zH zE) rfl (fun _ => rfl) (by decide) rfl (Nat.le_of_ble_eq_true rfl) (by decide) (by decide) (fun _ h43 => ?_)
  refine am_goto (tgt := 172) dX10_takesE_155 (by decide) ?_
  exact am_weak (sxX10_takesE_b172 k28 hk28 l0 x41 l3 h43) ⟨rfl, ⟨rfl, ⟨rfl, trivial⟩⟩⟩ (Nat.le_refl _) (Nat.le_refl _)
def fxX10_takesE_b305 (k28 : Option Nat → Int32 → Int32 → Int32 → am_H → Option (Int32 × am_H)) (l0 : Option Nat) (l1 : Int32) (l2 : Int32) (l4 : Int32) (s0 : Int32) (s1 : Int32) (s2 : Option Nat) (h : am_H) : Option (Int32 × am_H) := am_gd (am_ix h s2 2 s1 && am_bz s0) (am_lt (am_si h s2 s1.toNatClampNeg s0) (fun h61 => am_bd (fxX10_rank l4 h61) (fun r62 h63 => am_gd (am_ob h63 l0 10) (am_bd (fxX10_settle l0 r62 h63) (fun _ h64 => am_gd (am_ob h64 l0 10) (am_gd (am_ob h64 l0 10) (am_gd (am_ix h64 (am_gr h64 l0 21) 0 (am_gi h64 l0 22)) (am_lt (am_si h64 (am_gr h64 l0 21) (am_gi h64 l0 22).toNatClampNeg l4) (fun h65 => am_gd (am_ob h65 l0 10) (am_gd (am_ob h65 l0 10) (am_lt (am_si h65 l0 22 ((am_gi h65 l0 22) + (1 : Int32))) (fun h66 => am_lt (1 : Int32) (fun x67 => am_gd (am_ob h66 l0 10) (am_bd (fxX10_go l0 h66) (fun _ h68 => k28 l0 l1 l2 x67 h68)))))))))))))))
set_option maxRecDepth 100000 in
theorem sxX10_takesE_b305 {xs : List Int32} (k28 : Option Nat → Int32 → Int32 → Int32 → am_H → Option (Int32 × am_H)) (hk28 : ∀ (l0 : Option Nat) (l1 : Int32) (l2 : Int32) (l3 : Int32) (h : am_H), am_Sm xs am_ci mX10_takesE 3 0 0 28 [some (am_R l0), some (am_I l1), some (am_I l2), some (am_I l3), none] [] h (k28 l0 l1 l2 l3 h)) (l0 : Option Nat) (l1 : Int32) (l2 : Int32) (l4 : Int32) (s0 : Int32) (s1 : Int32) (s2 : Option Nat) (h : am_H) : am_Sm xs am_ci mX10_takesE 3 0 0 305 [some (am_R l0), some (am_I l1), some (am_I l2), none, some (am_I l4)] [am_I s0, am_I s1, am_R s2] h (fxX10_takesE_b305 k28 l0 l1 l2 l4 s0 s1 s2 h) := by
  unfold fxX10_takesE_b305
  refine am_zast dX10_takesE_305 (fun h61 => ?_)
  refine am_aload_n dX10_takesE_306 rfl ?_
  refine am_iload dX10_takesE_307 rfl ?_
  refine am_callS (cvj := am_ci) (mtj := mX10_rank) (dj := 0) (nj := 1) (rcj := 0) (rsj := 0) (rc' := 0) (rs' := 0) (st' := fun a9 => (am_I a9 :: [am_R l0])) [am_I l4] [am_R l0] dX10_takesE_309 okX10_rank lk_RX10_247 (fun zA zH zE => txX10_rank l4 h61 zA zH zE) rfl (fun _ => rfl) (by decide) rfl (Nat.le_of_ble_eq_true rfl) (by decide) (by decide) (fun r62 h63 => ?_)
  refine am_callV (cvj := am_cu) (mtj := mX10_settle) (dj := 1) (nj := 1) (rcj := 0) (rsj := 0) (rc' := 0) (rs' := 0) (ci := 10) (st' := fun _ => []) ⟨_, rfl, rfl⟩ [am_I r62] [] dX10_takesE_312 okX10_settle lk_RX10_259 (fun zA zH zE => txX10_settle l0 r62 h63 zA zH zE) rfl (fun _ => rfl) (by decide) rfl (Nat.le_of_ble_eq_true rfl) (by decide) (by decide) (fun _ h64 => ?_)
  refine am_aload_n dX10_takesE_315 rfl ?_
  refine am_getR dX10_takesE_316 fk_RX10_44 rfl ?_
  refine am_aload_n dX10_takesE_319 rfl ?_
  refine am_getI dX10_takesE_320 fk_RX10_244 rfl ?_
  refine am_iload dX10_takesE_323 rfl ?_
  refine am_iast dX10_takesE_325 (fun h65 => ?_)
  refine am_aload_n dX10_takesE_326 rfl ?_
  refine am_dup dX10_takesE_327 ?_
  refine am_getI dX10_takesE_328 fk_RX10_244 rfl ?_
  refine am_iconst (v := 1) dX10_takesE_331 (by decide) ?_
  refine am_iadd dX10_takesE_332 ?_
  refine am_putI dX10_takesE_333 fk_RX10_244 ⟨_, rfl, Or.inl rfl⟩ rfl (fun h66 => ?_)
  refine am_iconst (v := 1) dX10_takesE_336 (by decide) ?_
  refine am_istore_n (LL := fun y9 => [some (am_R l0), some (am_I l1), some (am_I l2), some (am_I y9), some (am_I l4)]) dX10_takesE_337 (by decide) (fun _ => rfl) (fun x67 => ?_)
  refine am_aload_n dX10_takesE_338 rfl ?_
  refine am_callV (cvj := am_cu) (mtj := mX10_go) (dj := 1) (nj := 0) (rcj := 0) (rsj := 0) (rc' := 0) (rs' := 0) (ci := 10) (st' := fun _ => []) ⟨_, rfl, rfl⟩ [] [] dX10_takesE_339 okX10_go lk_RX10_241 (fun zA zH zE => txX10_go l0 h66 zA zH zE) rfl (fun _ => rfl) (by decide) rfl (Nat.le_of_ble_eq_true rfl) (by decide) (by decide) (fun _ h68 => ?_)
  refine am_goto (tgt := 28) dX10_takesE_342 (by decide) ?_
  exact am_weak (hk28 l0 l1 l2 x67 h68) ⟨rfl, ⟨rfl, ⟨rfl, ⟨rfl, trivial⟩⟩⟩⟩ (Nat.le_refl _) (Nat.le_refl _)
def fxX10_takesE_b300 (k28 : Option Nat → Int32 → Int32 → Int32 → am_H → Option (Int32 × am_H)) (l0 : Option Nat) (l1 : Int32) (l2 : Int32) (l4 : Int32) (s0 : Int32) (s1 : Option Nat) (h : am_H) : Option (Int32 × am_H) := fxX10_takesE_b305 k28 l0 l1 l2 l4 (1 : Int32) s0 s1 h
set_option maxRecDepth 100000 in
theorem sxX10_takesE_b300 {xs : List Int32} (k28 : Option Nat → Int32 → Int32 → Int32 → am_H → Option (Int32 × am_H)) (hk28 : ∀ (l0 : Option Nat) (l1 : Int32) (l2 : Int32) (l3 : Int32) (h : am_H), am_Sm xs am_ci mX10_takesE 3 0 0 28 [some (am_R l0), some (am_I l1), some (am_I l2), some (am_I l3), none] [] h (k28 l0 l1 l2 l3 h)) (l0 : Option Nat) (l1 : Int32) (l2 : Int32) (l4 : Int32) (s0 : Int32) (s1 : Option Nat) (h : am_H) : am_Sm xs am_ci mX10_takesE 3 0 0 300 [some (am_R l0), some (am_I l1), some (am_I l2), none, some (am_I l4)] [am_I s0, am_R s1] h (fxX10_takesE_b300 k28 l0 l1 l2 l4 s0 s1 h) := by
  unfold fxX10_takesE_b300
  refine am_iconst (v := 1) dX10_takesE_300 (by decide) ?_
  refine am_goto (tgt := 305) dX10_takesE_301 (by decide) ?_
  exact am_weak (sxX10_takesE_b305 k28 hk28 l0 l1 l2 l4 (1 : Int32) s0 s1 h) ⟨rfl, ⟨rfl, ⟨rfl, ⟨rfl, trivial⟩⟩⟩⟩ (Nat.le_refl _) (Nat.le_refl _)
def fxX10_takesE_b304 (k28 : Option Nat → Int32 → Int32 → Int32 → am_H → Option (Int32 × am_H)) (l0 : Option Nat) (l1 : Int32) (l2 : Int32) (l4 : Int32) (s0 : Int32) (s1 : Option Nat) (h : am_H) : Option (Int32 × am_H) := fxX10_takesE_b305 k28 l0 l1 l2 l4 (0 : Int32) s0 s1 h
set_option maxRecDepth 100000 in
theorem sxX10_takesE_b304 {xs : List Int32} (k28 : Option Nat → Int32 → Int32 → Int32 → am_H → Option (Int32 × am_H)) (hk28 : ∀ (l0 : Option Nat) (l1 : Int32) (l2 : Int32) (l3 : Int32) (h : am_H), am_Sm xs am_ci mX10_takesE 3 0 0 28 [some (am_R l0), some (am_I l1), some (am_I l2), some (am_I l3), none] [] h (k28 l0 l1 l2 l3 h)) (l0 : Option Nat) (l1 : Int32) (l2 : Int32) (l4 : Int32) (s0 : Int32) (s1 : Option Nat) (h : am_H) : am_Sm xs am_ci mX10_takesE 3 0 0 304 [some (am_R l0), some (am_I l1), some (am_I l2), none, some (am_I l4)] [am_I s0, am_R s1] h (fxX10_takesE_b304 k28 l0 l1 l2 l4 s0 s1 h) := by
  unfold fxX10_takesE_b304
  refine am_iconst (v := 0) dX10_takesE_304 (by decide) ?_
  exact am_weak (sxX10_takesE_b305 k28 hk28 l0 l1 l2 l4 (0 : Int32) s0 s1 h) ⟨rfl, ⟨rfl, ⟨rfl, ⟨rfl, trivial⟩⟩⟩⟩ (Nat.le_refl _) (Nat.le_refl _)
def fxX10_takesE_b268 (k28 : Option Nat → Int32 → Int32 → Int32 → am_H → Option (Int32 × am_H)) (l0 : Option Nat) (l1 : Int32) (l2 : Int32) (l4 : Int32) (h : am_H) : Option (Int32 × am_H) := am_gd (am_ob h l0 10) (am_bd (fxX10_rank l4 h) (fun r50 h51 => if r50 = (3 : Int32) then (fxX10_takesE_b300 k28 l0 l1 l2 l4 l1 (am_gr h l0 23) h51) else (am_bd (fxX10_rank l4 h51) (fun r52 h53 => if r52 ≤ (3 : Int32) then (fxX10_takesE_b304 k28 l0 l1 l2 l4 l1 (am_gr h l0 23) h53) else (am_gd (am_ob h53 l0 10) (am_gd (am_ix h53 (am_gr h53 l0 23) 2 l1) (if (am_gi h53 (am_gr h53 l0 23) l1.toNatClampNeg) = 0 then (fxX10_takesE_b304 k28 l0 l1 l2 l4 l1 (am_gr h l0 23) h53) else (fxX10_takesE_b300 k28 l0 l1 l2 l4 l1 (am_gr h l0 23) h53))))))))
set_option maxRecDepth 100000 in
theorem sxX10_takesE_b268 {xs : List Int32} (k28 : Option Nat → Int32 → Int32 → Int32 → am_H → Option (Int32 × am_H)) (hk28 : ∀ (l0 : Option Nat) (l1 : Int32) (l2 : Int32) (l3 : Int32) (h : am_H), am_Sm xs am_ci mX10_takesE 3 0 0 28 [some (am_R l0), some (am_I l1), some (am_I l2), some (am_I l3), none] [] h (k28 l0 l1 l2 l3 h)) (l0 : Option Nat) (l1 : Int32) (l2 : Int32) (l4 : Int32) (h : am_H) : am_Sm xs am_ci mX10_takesE 3 0 0 268 [some (am_R l0), some (am_I l1), some (am_I l2), none, some (am_I l4)] [] h (fxX10_takesE_b268 k28 l0 l1 l2 l4 h) := by
  unfold fxX10_takesE_b268
  refine am_aload_n dX10_takesE_268 rfl ?_
  refine am_getR dX10_takesE_269 fk_RX10_47 rfl ?_
  refine am_iload_n dX10_takesE_272 rfl ?_
  refine am_iload dX10_takesE_273 rfl ?_
  refine am_callS (cvj := am_ci) (mtj := mX10_rank) (dj := 0) (nj := 1) (rcj := 0) (rsj := 0) (rc' := 0) (rs' := 0) (st' := fun a9 => (am_I a9 :: [am_I l1, am_R (am_gr h l0 23)])) [am_I l4] [am_I l1, am_R (am_gr h l0 23)] dX10_takesE_275 okX10_rank lk_RX10_247 (fun zA zH zE => txX10_rank l4 h zA zH zE) rfl (fun _ => rfl) (by decide) rfl (Nat.le_of_ble_eq_true rfl) (by decide) (by decide) (fun r50 h51 => ?_)
  refine am_iconst (v := 3) dX10_takesE_278 (by decide) ?_
  refine am_icmp_eq (tgt := 300) dX10_takesE_279 (by decide) (fun c56 => ?_) (fun c56 => ?_)
  · exact am_weak (sxX10_takesE_b300 k28 hk28 l0 l1 l2 l4 l1 (am_gr h l0 23) h51) ⟨rfl, ⟨rfl, ⟨rfl, ⟨rfl, trivial⟩⟩⟩⟩ (Nat.le_refl _) (Nat.le_refl _)
  refine am_iload dX10_takesE_282 rfl ?_
  refine am_callS (cvj := am_ci) (mtj := mX10_rank) (dj := 0) (nj := 1) (rcj := 0) (rsj := 0) (rc' := 0) (rs' := 0) (st' := fun a9 => (am_I a9 :: [am_I l1, am_R (am_gr h l0 23)])) [am_I l4] [am_I l1, am_R (am_gr h l0 23)] dX10_takesE_284 okX10_rank lk_RX10_247 (fun zA zH zE => txX10_rank l4 h51 zA zH zE) rfl (fun _ => rfl) (by decide) rfl (Nat.le_of_ble_eq_true rfl) (by decide) (by decide) (fun r52 h53 => ?_)
  refine am_iconst (v := 3) dX10_takesE_287 (by decide) ?_
  refine am_icmp_le (tgt := 304) dX10_takesE_288 (by decide) (fun c55 => ?_) (fun c55 => ?_)
  · exact am_weak (sxX10_takesE_b304 k28 hk28 l0 l1 l2 l4 l1 (am_gr h l0 23) h53) ⟨rfl, ⟨rfl, ⟨rfl, ⟨rfl, trivial⟩⟩⟩⟩ (Nat.le_refl _) (Nat.le_refl _)
  refine am_aload_n dX10_takesE_291 rfl ?_
  refine am_getR dX10_takesE_292 fk_RX10_47 rfl ?_
  refine am_iload_n dX10_takesE_295 rfl ?_
  refine am_zald dX10_takesE_296 ?_
  refine am_if_eq (tgt := 304) dX10_takesE_297 (by decide) (fun c54 => ?_) (fun c54 => ?_)
  · exact am_weak (sxX10_takesE_b304 k28 hk28 l0 l1 l2 l4 l1 (am_gr h l0 23) h53) ⟨rfl, ⟨rfl, ⟨rfl, ⟨rfl, trivial⟩⟩⟩⟩ (Nat.le_refl _) (Nat.le_refl _)
  exact am_weak (sxX10_takesE_b300 k28 hk28 l0 l1 l2 l4 l1 (am_gr h l0 23) h53) ⟨rfl, ⟨rfl, ⟨rfl, ⟨rfl, trivial⟩⟩⟩⟩ (Nat.le_refl _) (Nat.le_refl _)
def fxX10_takesE_b237 (k28 : Option Nat → Int32 → Int32 → Int32 → am_H → Option (Int32 × am_H)) (l0 : Option Nat) (l1 : Int32) (l2 : Int32) (h : am_H) : Option (Int32 × am_H) := am_gd (am_ob h l0 10) (am_bd (fxX10_signHere l0 h) (fun r31 h32 => am_lt r31 (fun x33 => if x33 = 0 then (am_gd (am_bz (0 : Int32)) (some ((0 : Int32), h32))) else (am_bd (fxX10_rank x33 h32) (fun r34 h35 => if r34 = (3 : Int32) then (am_gd (am_ob h35 l0 10) (am_gd (am_ix h35 (am_gr h35 l0 23) 2 l1) (if (am_gi h35 (am_gr h35 l0 23) l1.toNatClampNeg) = 0 then (fxX10_takesE_b268 k28 l0 l1 l2 x33 h35) else (am_gd (am_bz (0 : Int32)) (some ((0 : Int32), h35)))))) else (fxX10_takesE_b268 k28 l0 l1 l2 x33 h35))))))
set_option maxRecDepth 100000 in
theorem sxX10_takesE_b237 {xs : List Int32} (k28 : Option Nat → Int32 → Int32 → Int32 → am_H → Option (Int32 × am_H)) (hk28 : ∀ (l0 : Option Nat) (l1 : Int32) (l2 : Int32) (l3 : Int32) (h : am_H), am_Sm xs am_ci mX10_takesE 3 0 0 28 [some (am_R l0), some (am_I l1), some (am_I l2), some (am_I l3), none] [] h (k28 l0 l1 l2 l3 h)) (l0 : Option Nat) (l1 : Int32) (l2 : Int32) (h : am_H) : am_Sm xs am_ci mX10_takesE 3 0 0 237 [some (am_R l0), some (am_I l1), some (am_I l2), none, none] [] h (fxX10_takesE_b237 k28 l0 l1 l2 h) := by
  unfold fxX10_takesE_b237
  refine am_aload_n dX10_takesE_237 rfl ?_
  refine am_callV (cvj := am_ci) (mtj := mX10_signHere) (dj := 0) (nj := 0) (rcj := 0) (rsj := 0) (rc' := 0) (rs' := 0) (ci := 10) (st' := fun a9 => (am_I a9 :: [])) ⟨_, rfl, rfl⟩ [] [] dX10_takesE_238 okX10_signHere lk_RX10_270 (fun zA zH zE => txX10_signHere l0 h zA zH zE) rfl (fun _ => rfl) (by decide) rfl (Nat.le_of_ble_eq_true rfl) (by decide) (by decide) (fun r31 h32 => ?_)
  refine am_istore (LL := fun y9 => [some (am_R l0), some (am_I l1), some (am_I l2), none, some (am_I y9)]) dX10_takesE_241 (by decide) (fun _ => rfl) (fun x33 => ?_)
  refine am_iload dX10_takesE_243 rfl ?_
  refine am_if_eq (tgt := 266) dX10_takesE_245 (by decide) (fun c38 => ?_) (fun c38 => ?_)
  · refine am_iconst (v := 0) dX10_takesE_266 (by decide) ?_
    exact am_zret dX10_takesE_267 rfl rfl
  refine am_iload dX10_takesE_248 rfl ?_
  refine am_callS (cvj := am_ci) (mtj := mX10_rank) (dj := 0) (nj := 1) (rcj := 0) (rsj := 0) (rc' := 0) (rs' := 0) (st' := fun a9 => (am_I a9 :: [])) [am_I x33] [] dX10_takesE_250 okX10_rank lk_RX10_247 (fun zA zH zE => txX10_rank x33 h32 zA zH zE) rfl (fun _ => rfl) (by decide) rfl (Nat.le_of_ble_eq_true rfl) (by decide) (by decide) (fun r34 h35 => ?_)
  refine am_iconst (v := 3) dX10_takesE_253 (by decide) ?_
  refine am_icmp_ne (tgt := 268) dX10_takesE_254 (by decide) (fun c37 => ?_) (fun c37 => ?_)
  · exact am_weak (sxX10_takesE_b268 k28 hk28 l0 l1 l2 x33 h35) ⟨rfl, ⟨rfl, ⟨rfl, ⟨rfl, trivial⟩⟩⟩⟩ (Nat.le_refl _) (Nat.le_refl _)
  refine am_aload_n dX10_takesE_257 rfl ?_
  refine am_getR dX10_takesE_258 fk_RX10_47 rfl ?_
  refine am_iload_n dX10_takesE_261 rfl ?_
  refine am_zald dX10_takesE_262 ?_
  refine am_if_eq (tgt := 268) dX10_takesE_263 (by decide) (fun c36 => ?_) (fun c36 => ?_)
  · exact am_weak (sxX10_takesE_b268 k28 hk28 l0 l1 l2 x33 h35) ⟨rfl, ⟨rfl, ⟨rfl, ⟨rfl, trivial⟩⟩⟩⟩ (Nat.le_refl _) (Nat.le_refl _)
  refine am_iconst (v := 0) dX10_takesE_266 (by decide) ?_
  exact am_zret dX10_takesE_267 rfl rfl
def fxX10_takesE_b39 (k28 : Option Nat → Int32 → Int32 → Int32 → am_H → Option (Int32 × am_H)) (l0 : Option Nat) (l1 : Int32) (l2 : Int32) (l3 : Int32) (h : am_H) : Option (Int32 × am_H) := if l3 = 0 then (am_gd (am_ob h l0 10) (if (am_gi h l0 12) = (3 : Int32) then (am_gd (am_ob h l0 10) (if (am_gi h l0 13) = (41 : Int32) then (if l1 ≤ 0 then (fxX10_takesE_b237 k28 l0 l1 l2 h) else (am_gd (am_ob h l0 10) (am_bd (fxX10_settle l0 (0 : Int32) h) (fun _ h12 => am_gd (am_ob h12 l0 10) (am_gd (am_ob h12 l0 10) (am_lt (am_si h12 l0 22 ((am_gi h12 l0 22) - (1 : Int32))) (fun h13 => am_lt (l1 + (-1)) (fun x14 => am_gd (am_ob h13 l0 10) (am_bd (fxX10_settle l0 (6 : Int32) h13) (fun _ h15 => am_gd (am_ob h15 l0 10) (am_bd (fxX10_notsOpen l0 h15) (fun r16 h17 => am_lt r16 (fun x18 => am_gd (am_ob h17 l0 10) (am_bd (fxX10_go l0 h17) (fun _ h19 => k28 l0 x14 x18 l3 h19))))))))))))))) else (fxX10_takesE_b237 k28 l0 l1 l2 h))) else (fxX10_takesE_b237 k28 l0 l1 l2 h))) else (am_gd (am_ob h l0 10) (if (am_gi h l0 12) = (3 : Int32) then (am_gd (am_ob h l0 10) (if (am_gi h l0 13) = (33 : Int32) then (if (8 : Int32) ≤ l2 then (fxX10_takesE_b97 k28 l0 l1 l3 h) else (am_gd (am_ob h l0 10) (am_gd (am_ob h l0 10) (am_gd (am_ix h (am_gr h l0 21) 0 (am_gi h l0 22)) (am_lt (am_si h (am_gr h l0 21) (am_gi h l0 22).toNatClampNeg (-10 : Int32)) (fun h23 => am_gd (am_ob h23 l0 10) (am_gd (am_ob h23 l0 10) (am_lt (am_si h23 l0 22 ((am_gi h23 l0 22) + (1 : Int32))) (fun h24 => am_lt (l2 + 1) (fun x25 => am_gd (am_ob h24 l0 10) (am_bd (fxX10_go l0 h24) (fun _ h26 => fxX10_takesE_b172 k28 l0 l1 l3 h26)))))))))))) else (fxX10_takesE_b97 k28 l0 l1 l3 h))) else (fxX10_takesE_b97 k28 l0 l1 l3 h)))
set_option maxRecDepth 100000 in
theorem sxX10_takesE_b39 {xs : List Int32} (k28 : Option Nat → Int32 → Int32 → Int32 → am_H → Option (Int32 × am_H)) (hk28 : ∀ (l0 : Option Nat) (l1 : Int32) (l2 : Int32) (l3 : Int32) (h : am_H), am_Sm xs am_ci mX10_takesE 3 0 0 28 [some (am_R l0), some (am_I l1), some (am_I l2), some (am_I l3), none] [] h (k28 l0 l1 l2 l3 h)) (l0 : Option Nat) (l1 : Int32) (l2 : Int32) (l3 : Int32) (h : am_H) : am_Sm xs am_ci mX10_takesE 3 0 0 39 [some (am_R l0), some (am_I l1), some (am_I l2), some (am_I l3), none] [] h (fxX10_takesE_b39 k28 l0 l1 l2 l3 h) := by
  unfold fxX10_takesE_b39
  refine am_iload_n dX10_takesE_39 rfl ?_
  refine am_if_eq (tgt := 180) dX10_takesE_40 (by decide) (fun c30 => ?_) (fun c30 => ?_)
  · refine am_aload_n dX10_takesE_180 rfl ?_
    refine am_getI dX10_takesE_181 fk_RX10_226 rfl ?_
    refine am_iconst (v := 3) dX10_takesE_184 (by decide) ?_
    refine am_icmp_ne (tgt := 237) dX10_takesE_185 (by decide) (fun c22 => ?_) (fun c22 => ?_)
    · exact am_weak (sxX10_takesE_b237 k28 hk28 l0 l1 l2 h) ⟨rfl, ⟨rfl, ⟨rfl, trivial⟩⟩⟩ (Nat.le_refl _) (Nat.le_refl _)
    refine am_aload_n dX10_takesE_188 rfl ?_
    refine am_getI dX10_takesE_189 fk_RX10_232 rfl ?_
    refine am_bipush (v := 41) dX10_takesE_192 (by decide) ?_
    refine am_icmp_ne (tgt := 237) dX10_takesE_194 (by decide) (fun c21 => ?_) (fun c21 => ?_)
    · exact am_weak (sxX10_takesE_b237 k28 hk28 l0 l1 l2 h) ⟨rfl, ⟨rfl, ⟨rfl, trivial⟩⟩⟩ (Nat.le_refl _) (Nat.le_refl _)
    refine am_iload_n dX10_takesE_197 rfl ?_
    refine am_if_le (tgt := 237) dX10_takesE_198 (by decide) (fun c20 => ?_) (fun c20 => ?_)
    · exact am_weak (sxX10_takesE_b237 k28 hk28 l0 l1 l2 h) ⟨rfl, ⟨rfl, ⟨rfl, trivial⟩⟩⟩ (Nat.le_refl _) (Nat.le_refl _)
    refine am_aload_n dX10_takesE_201 rfl ?_
    refine am_iconst (v := 0) dX10_takesE_202 (by decide) ?_
    refine am_callV (cvj := am_cu) (mtj := mX10_settle) (dj := 1) (nj := 1) (rcj := 0) (rsj := 0) (rc' := 0) (rs' := 0) (ci := 10) (st' := fun _ => []) ⟨_, rfl, rfl⟩ [am_I (0 : Int32)] [] dX10_takesE_203 okX10_settle lk_RX10_259 (fun zA zH zE => txX10_settle l0 (0 : Int32) h zA zH zE) rfl (fun _ => rfl) (by decide) rfl (Nat.le_of_ble_eq_true rfl) (by decide) (by decide) (fun _ h12 => ?_)
    refine am_aload_n dX10_takesE_206 rfl ?_
    refine am_dup dX10_takesE_207 ?_
    refine am_getI dX10_takesE_208 fk_RX10_244 rfl ?_
    refine am_iconst (v := 1) dX10_takesE_211 (by decide) ?_
    refine am_isub dX10_takesE_212 ?_
    refine am_putI dX10_takesE_213 fk_RX10_244 ⟨_, rfl, Or.inl rfl⟩ rfl (fun h13 => ?_)
    refine am_iinc (v := (-1)) (LL := fun y9 => [some (am_R l0), some (am_I y9), some (am_I l2), some (am_I l3), none]) dX10_takesE_216 (by decide) rfl (by decide) (fun _ => rfl) (fun x14 => ?_)
    refine am_aload_n dX10_takesE_219 rfl ?_
    refine am_bipush (v := 6) dX10_takesE_220 (by decide) ?_
    refine am_callV (cvj := am_cu) (mtj := mX10_settle) (dj := 1) (nj := 1) (rcj := 0) (rsj := 0) (rc' := 0) (rs' := 0) (ci := 10) (st' := fun _ => []) ⟨_, rfl, rfl⟩ [am_I (6 : Int32)] [] dX10_takesE_222 okX10_settle lk_RX10_259 (fun zA zH zE => txX10_settle l0 (6 : Int32) h13 zA zH zE) rfl (fun _ => rfl) (by decide) rfl (Nat.le_of_ble_eq_true rfl) (by decide) (by decide) (fun _ h15 => ?_)
    refine am_aload_n dX10_takesE_225 rfl ?_
    refine am_callV (cvj := am_ci) (mtj := mX10_notsOpen) (dj := 0) (nj := 0) (rcj := 0) (rsj := 0) (rc' := 0) (rs' := 0) (ci := 10) (st' := fun a9 => (am_I a9 :: [])) ⟨_, rfl, rfl⟩ [] [] dX10_takesE_226 okX10_notsOpen lk_RX10_267 (fun zA zH zE => txX10_notsOpen l0 h15 zA zH zE) rfl (fun _ => rfl) (by decide) rfl (Nat.le_of_ble_eq_true rfl) (by decide) (by decide) (fun r16 h17 => ?_)
    refine am_istore_n (LL := fun y9 => [some (am_R l0), some (am_I x14), some (am_I y9), some (am_I l3), none]) dX10_takesE_229 (by decide) (fun _ => rfl) (fun x18 => ?_)
    refine am_aload_n dX10_takesE_230 rfl ?_
    refine am_callV (cvj := am_cu) (mtj := mX10_go) (dj := 1) (nj := 0) (rcj := 0) (rsj := 0) (rc' := 0) (rs' := 0) (ci := 10) (st' := fun _ => []) ⟨_, rfl, rfl⟩ [] [] dX10_takesE_231 okX10_go lk_RX10_241 (fun zA zH zE => txX10_go l0 h17 zA zH zE) rfl (fun _ => rfl) (by decide) rfl (Nat.le_of_ble_eq_true rfl) (by decide) (by decide) (fun _ h19 => ?_)
    refine am_goto (tgt := 28) dX10_takesE_234 (by decide) ?_
    exact am_weak (hk28 l0 x14 x18 l3 h19) ⟨rfl, ⟨rfl, ⟨rfl, ⟨rfl, trivial⟩⟩⟩⟩ (Nat.le_refl _) (Nat.le_refl _)
  refine am_aload_n dX10_takesE_43 rfl ?_
  refine am_getI dX10_takesE_44 fk_RX10_226 rfl ?_
  refine am_iconst (v := 3) dX10_takesE_47 (by decide) ?_
  refine am_icmp_ne (tgt := 97) dX10_takesE_48 (by decide) (fun c29 => ?_) (fun c29 => ?_)
  · exact am_weak (sxX10_takesE_b97 k28 hk28 l0 l1 l3 h) ⟨rfl, ⟨rfl, ⟨rfl, trivial⟩⟩⟩ (Nat.le_refl _) (Nat.le_refl _)
  refine am_aload_n dX10_takesE_51 rfl ?_
  refine am_getI dX10_takesE_52 fk_RX10_232 rfl ?_
  refine am_bipush (v := 33) dX10_takesE_55 (by decide) ?_
  refine am_icmp_ne (tgt := 97) dX10_takesE_57 (by decide) (fun c28 => ?_) (fun c28 => ?_)
  · exact am_weak (sxX10_takesE_b97 k28 hk28 l0 l1 l3 h) ⟨rfl, ⟨rfl, ⟨rfl, trivial⟩⟩⟩ (Nat.le_refl _) (Nat.le_refl _)
  refine am_iload_n dX10_takesE_60 rfl ?_
  refine am_bipush (v := 8) dX10_takesE_61 (by decide) ?_
  refine am_icmp_ge (tgt := 97) dX10_takesE_63 (by decide) (fun c27 => ?_) (fun c27 => ?_)
  · exact am_weak (sxX10_takesE_b97 k28 hk28 l0 l1 l3 h) ⟨rfl, ⟨rfl, ⟨rfl, trivial⟩⟩⟩ (Nat.le_refl _) (Nat.le_refl _)
  refine am_aload_n dX10_takesE_66 rfl ?_
  refine am_getR dX10_takesE_67 fk_RX10_44 rfl ?_
  refine am_aload_n dX10_takesE_70 rfl ?_
  refine am_getI dX10_takesE_71 fk_RX10_244 rfl ?_
  refine am_bipush (v := (-10)) dX10_takesE_74 (by decide) ?_
  refine am_iast dX10_takesE_76 (fun h23 => ?_)
  refine am_aload_n dX10_takesE_77 rfl ?_
  refine am_dup dX10_takesE_78 ?_
  refine am_getI dX10_takesE_79 fk_RX10_244 rfl ?_
  refine am_iconst (v := 1) dX10_takesE_82 (by decide) ?_
  refine am_iadd dX10_takesE_83 ?_
  refine am_putI dX10_takesE_84 fk_RX10_244 ⟨_, rfl, Or.inl rfl⟩ rfl (fun h24 => ?_)
  refine am_iinc (v := 1) (LL := fun y9 => [some (am_R l0), some (am_I l1), some (am_I y9), some (am_I l3), none]) dX10_takesE_87 (by decide) rfl (by decide) (fun _ => rfl) (fun x25 => ?_)
  refine am_aload_n dX10_takesE_90 rfl ?_
  refine am_callV (cvj := am_cu) (mtj := mX10_go) (dj := 1) (nj := 0) (rcj := 0) (rsj := 0) (rc' := 0) (rs' := 0) (ci := 10) (st' := fun _ => []) ⟨_, rfl, rfl⟩ [] [] dX10_takesE_91 okX10_go lk_RX10_241 (fun zA zH zE => txX10_go l0 h24 zA zH zE) rfl (fun _ => rfl) (by decide) rfl (Nat.le_of_ble_eq_true rfl) (by decide) (by decide) (fun _ h26 => ?_)
  refine am_goto (tgt := 172) dX10_takesE_94 (by decide) ?_
  exact am_weak (sxX10_takesE_b172 k28 hk28 l0 l1 l3 h26) ⟨rfl, ⟨rfl, ⟨rfl, trivial⟩⟩⟩ (Nat.le_refl _) (Nat.le_refl _)
def fxX10_takesE_b28 : Nat → Option Nat → Int32 → Int32 → Int32 → am_H → Option (Int32 × am_H)
  | 0, _, _, _, _, _ => none
  | n + 1, l0, l1, l2, l3, h => if l3 = 0 then (am_gd (am_ob h l0 10) (if (am_gi h l0 12) = 0 then (am_gd (am_ob h l0 10) (am_bd (fxX10_settle l0 (0 : Int32) h) (fun _ h8 => if l1 = 0 then (am_gd (am_bz (1 : Int32)) (some ((1 : Int32), h8))) else (am_gd (am_bz (0 : Int32)) (some ((0 : Int32), h8)))))) else (fxX10_takesE_b39 (fxX10_takesE_b28 n) l0 l1 l2 l3 h))) else (fxX10_takesE_b39 (fxX10_takesE_b28 n) l0 l1 l2 l3 h)
set_option maxRecDepth 100000 in
theorem sxX10_takesE_b28 {xs : List Int32} : ∀ (n : Nat) (l0 : Option Nat) (l1 : Int32) (l2 : Int32) (l3 : Int32) (h : am_H), am_Sm xs am_ci mX10_takesE 3 0 0 28 [some (am_R l0), some (am_I l1), some (am_I l2), some (am_I l3), none] [] h (fxX10_takesE_b28 n l0 l1 l2 l3 h) := by
  intro n
  induction n with
  | zero => intros; exact am_none
  | succ n ih =>
    intro l0 l1 l2 l3 h
    rw [fxX10_takesE_b28]
    refine am_iload_n dX10_takesE_28 rfl ?_
    refine am_if_ne (tgt := 39) dX10_takesE_29 (by decide) (fun c11 => ?_) (fun c11 => ?_)
    · exact am_weak (sxX10_takesE_b39 (fxX10_takesE_b28 n) ih l0 l1 l2 l3 h) ⟨rfl, ⟨rfl, ⟨rfl, ⟨rfl, trivial⟩⟩⟩⟩ (Nat.le_refl _) (Nat.le_refl _)
    refine am_aload_n dX10_takesE_32 rfl ?_
    refine am_getI dX10_takesE_33 fk_RX10_226 rfl ?_
    refine am_if_eq (tgt := 345) dX10_takesE_36 (by decide) (fun c10 => ?_) (fun c10 => ?_)
    · refine am_aload_n dX10_takesE_345 rfl ?_
      refine am_iconst (v := 0) dX10_takesE_346 (by decide) ?_
      refine am_callV (cvj := am_cu) (mtj := mX10_settle) (dj := 1) (nj := 1) (rcj := 0) (rsj := 0) (rc' := 0) (rs' := 0) (ci := 10) (st' := fun _ => []) ⟨_, rfl, rfl⟩ [am_I (0 : Int32)] [] dX10_takesE_347 okX10_settle lk_RX10_259 (fun zA zH zE => txX10_settle l0 (0 : Int32) h zA zH zE) rfl (fun _ => rfl) (by decide) rfl (Nat.le_of_ble_eq_true rfl) (by decide) (by decide) (fun _ h8 => ?_)
      refine am_iload_n dX10_takesE_350 rfl ?_
      refine am_if_ne (tgt := 358) dX10_takesE_351 (by decide) (fun c9 => ?_) (fun c9 => ?_)
      · refine am_iconst (v := 0) dX10_takesE_358 (by decide) ?_
        exact am_zret dX10_takesE_359 rfl rfl
      refine am_iconst (v := 1) dX10_takesE_354 (by decide) ?_
      refine am_goto (tgt := 359) dX10_takesE_355 (by decide) ?_
      exact am_zret dX10_takesE_359 rfl rfl
    exact am_weak (sxX10_takesE_b39 (fxX10_takesE_b28 n) ih l0 l1 l2 l3 h) ⟨rfl, ⟨rfl, ⟨rfl, ⟨rfl, trivial⟩⟩⟩⟩ (Nat.le_refl _) (Nat.le_refl _)
def fxX10_takesE (l0 : Option Nat) (h : am_H) : Option (Int32 × am_H) := am_lt (0 : Int32) (fun x1 => am_lt (0 : Int32) (fun x2 => am_lt (1 : Int32) (fun x3 => am_gd (am_ob h l0 10) (am_lt (am_si h l0 19 (0 : Int32)) (fun h4 => am_gd (am_ob h4 l0 10) (am_lt (am_si h4 l0 20 (0 : Int32)) (fun h5 => am_gd (am_ob h5 l0 10) (am_lt (am_si h5 l0 22 (0 : Int32)) (fun h6 => am_gd (am_ob h6 l0 10) (am_gd (am_ix h6 (am_gr h6 l0 23) 2 (0 : Int32) && am_bz (0 : Int32)) (am_lt (am_si h6 (am_gr h6 l0 23) (0 : Int32).toNatClampNeg (0 : Int32)) (fun h7 => fxX10_takesE_b28 am_F l0 x1 x2 x3 h7))))))))))))
set_option maxRecDepth 100000 in
theorem sxX10_takesE {xs : List Int32} (l0 : Option Nat) (h : am_H) : am_Sm xs am_ci mX10_takesE 3 0 0 0 [some (am_R l0), none, none, none, none] [] h (fxX10_takesE l0 h) := by
  unfold fxX10_takesE
  refine am_iconst (v := 0) dX10_takesE_0 (by decide) ?_
  refine am_istore_n (LL := fun y9 => [some (am_R l0), some (am_I y9), none, none, none]) dX10_takesE_1 (by decide) (fun _ => rfl) (fun x1 => ?_)
  refine am_iconst (v := 0) dX10_takesE_2 (by decide) ?_
  refine am_istore_n (LL := fun y9 => [some (am_R l0), some (am_I x1), some (am_I y9), none, none]) dX10_takesE_3 (by decide) (fun _ => rfl) (fun x2 => ?_)
  refine am_iconst (v := 1) dX10_takesE_4 (by decide) ?_
  refine am_istore_n (LL := fun y9 => [some (am_R l0), some (am_I x1), some (am_I x2), some (am_I y9), none]) dX10_takesE_5 (by decide) (fun _ => rfl) (fun x3 => ?_)
  refine am_aload_n dX10_takesE_6 rfl ?_
  refine am_iconst (v := 0) dX10_takesE_7 (by decide) ?_
  refine am_putI dX10_takesE_8 fk_RX10_250 ⟨_, rfl, Or.inl rfl⟩ rfl (fun h4 => ?_)
  refine am_aload_n dX10_takesE_11 rfl ?_
  refine am_iconst (v := 0) dX10_takesE_12 (by decide) ?_
  refine am_putI dX10_takesE_13 fk_RX10_256 ⟨_, rfl, Or.inl rfl⟩ rfl (fun h5 => ?_)
  refine am_aload_n dX10_takesE_16 rfl ?_
  refine am_iconst (v := 0) dX10_takesE_17 (by decide) ?_
  refine am_putI dX10_takesE_18 fk_RX10_244 ⟨_, rfl, Or.inl rfl⟩ rfl (fun h6 => ?_)
  refine am_aload_n dX10_takesE_21 rfl ?_
  refine am_getR dX10_takesE_22 fk_RX10_47 rfl ?_
  refine am_iconst (v := 0) dX10_takesE_25 (by decide) ?_
  refine am_iconst (v := 0) dX10_takesE_26 (by decide) ?_
  refine am_zast dX10_takesE_27 (fun h7 => ?_)
  exact am_weak (sxX10_takesE_b28 am_F l0 x1 x2 x3 h7) ⟨rfl, ⟨rfl, ⟨rfl, ⟨rfl, trivial⟩⟩⟩⟩ (Nat.le_refl _) (Nat.le_refl _)
theorem txX10_takesE {xs : List Int32} (l0 : Option Nat) (h : am_H) (a : Int32) (h2 : am_H) (e : fxX10_takesE l0 h = some (a, h2)) : am_Ct xs mX10_takesE 3 0 0 [am_R l0] h (fun v h3 => v = am_ci a ∧ h3 = h2) := am_meth okX10_takesE (Nat.le_of_ble_eq_true rfl) rfl (sxX10_takesE l0 h) e
theorem dX10_text_0 : am_at cX10_text 0 (.aload_n 0) 1 1 := by decide +kernel
theorem dX10_text_1 : am_at cX10_text 1 (.iconst 0) 1 2 := by decide +kernel
theorem dX10_text_2 : am_at cX10_text 2 (.putfield 217) 3 5 := by decide +kernel
theorem dX10_text_5 : am_at cX10_text 5 (.aload_n 0) 1 6 := by decide +kernel
theorem dX10_text_6 : am_at cX10_text 6 (.iconst (-1)) 1 7 := by decide +kernel
theorem dX10_text_7 : am_at cX10_text 7 (.putfield 223) 3 10 := by decide +kernel
theorem dX10_text_10 : am_at cX10_text 10 (.aload_n 0) 1 11 := by decide +kernel
theorem dX10_text_11 : am_at cX10_text 11 (.invokevirtual 241) 3 14 := by decide +kernel
theorem dX10_text_14 : am_at cX10_text 14 (.aload_n 0) 1 15 := by decide +kernel
theorem dX10_text_15 : am_at cX10_text 15 (.invokevirtual 273) 3 18 := by decide +kernel
theorem dX10_text_18 : am_at cX10_text 18 (.ifCond .eq 14) 3 21 := by decide +kernel
theorem dX10_text_21 : am_at cX10_text 21 (.aload_n 0) 1 22 := by decide +kernel
theorem dX10_text_22 : am_at cX10_text 22 (.invokevirtual 276) 3 25 := by decide +kernel
theorem dX10_text_25 : am_at cX10_text 25 (.ifCond .eq 7) 3 28 := by decide +kernel
theorem dX10_text_28 : am_at cX10_text 28 (.iconst 1) 1 29 := by decide +kernel
theorem dX10_text_29 : am_at cX10_text 29 (.goto 4) 3 32 := by decide +kernel
theorem dX10_text_32 : am_at cX10_text 32 (.iconst 0) 1 33 := by decide +kernel
theorem dX10_text_33 : am_at cX10_text 33 (.istore_n 1) 1 34 := by decide +kernel
theorem dX10_text_34 : am_at cX10_text 34 (.aload_n 0) 1 35 := by decide +kernel
theorem dX10_text_35 : am_at cX10_text 35 (.iconst 0) 1 36 := by decide +kernel
theorem dX10_text_36 : am_at cX10_text 36 (.putfield 213) 3 39 := by decide +kernel
theorem dX10_text_39 : am_at cX10_text 39 (.iload_n 1) 1 40 := by decide +kernel
theorem dX10_text_40 : am_at cX10_text 40 (.ifCond .ne 11) 3 43 := by decide +kernel
theorem dX10_text_43 : am_at cX10_text 43 (.bipush (-100)) 2 45 := by decide +kernel
theorem dX10_text_45 : am_at cX10_text 45 (.aload_n 0) 1 46 := by decide +kernel
theorem dX10_text_46 : am_at cX10_text 46 (.getfield 220) 3 49 := by decide +kernel
theorem dX10_text_49 : am_at cX10_text 49 (.isub) 1 50 := by decide +kernel
theorem dX10_text_50 : am_at cX10_text 50 (.ireturn) 1 51 := by decide +kernel
theorem dX10_text_51 : am_at cX10_text 51 (.aload_n 0) 1 52 := by decide +kernel
theorem dX10_text_52 : am_at cX10_text 52 (.getfield 9) 3 55 := by decide +kernel
theorem dX10_text_55 : am_at cX10_text 55 (.iconst 5) 1 56 := by decide +kernel
theorem dX10_text_56 : am_at cX10_text 56 (.iaload) 1 57 := by decide +kernel
theorem dX10_text_57 : am_at cX10_text 57 (.bipush 14) 2 59 := by decide +kernel
theorem dX10_text_59 : am_at cX10_text 59 (.if_icmp .ne 6) 3 62 := by decide +kernel
theorem dX10_text_62 : am_at cX10_text 62 (.ldc 94) 2 64 := by decide +kernel
theorem dX10_text_64 : am_at cX10_text 64 (.ireturn) 1 65 := by decide +kernel
theorem dX10_text_65 : am_at cX10_text 65 (.aload_n 0) 1 66 := by decide +kernel
theorem dX10_text_66 : am_at cX10_text 66 (.getfield 9) 3 69 := by decide +kernel
theorem dX10_text_69 : am_at cX10_text 69 (.iconst 5) 1 70 := by decide +kernel
theorem dX10_text_70 : am_at cX10_text 70 (.iaload) 1 71 := by decide +kernel
theorem dX10_text_71 : am_at cX10_text 71 (.istore_n 2) 1 72 := by decide +kernel
theorem dX10_text_72 : am_at cX10_text 72 (.aload_n 0) 1 73 := by decide +kernel
theorem dX10_text_73 : am_at cX10_text 73 (.getfield 9) 3 76 := by decide +kernel
theorem dX10_text_76 : am_at cX10_text 76 (.bipush 76) 2 78 := by decide +kernel
theorem dX10_text_78 : am_at cX10_text 78 (.iconst 2) 1 79 := by decide +kernel
theorem dX10_text_79 : am_at cX10_text 79 (.iload_n 2) 1 80 := by decide +kernel
theorem dX10_text_80 : am_at cX10_text 80 (.imul) 1 81 := by decide +kernel
theorem dX10_text_81 : am_at cX10_text 81 (.iadd) 1 82 := by decide +kernel
theorem dX10_text_82 : am_at cX10_text 82 (.sipush 1000) 3 85 := by decide +kernel
theorem dX10_text_85 : am_at cX10_text 85 (.aload_n 0) 1 86 := by decide +kernel
theorem dX10_text_86 : am_at cX10_text 86 (.getfield 238) 3 89 := by decide +kernel
theorem dX10_text_89 : am_at cX10_text 89 (.imul) 1 90 := by decide +kernel
theorem dX10_text_90 : am_at cX10_text 90 (.aload_n 0) 1 91 := by decide +kernel
theorem dX10_text_91 : am_at cX10_text 91 (.getfield 250) 3 94 := by decide +kernel
theorem dX10_text_94 : am_at cX10_text 94 (.iadd) 1 95 := by decide +kernel
theorem dX10_text_95 : am_at cX10_text 95 (.iastore) 1 96 := by decide +kernel
theorem dX10_text_96 : am_at cX10_text 96 (.aload_n 0) 1 97 := by decide +kernel
theorem dX10_text_97 : am_at cX10_text 97 (.getfield 9) 3 100 := by decide +kernel
theorem dX10_text_100 : am_at cX10_text 100 (.bipush 76) 2 102 := by decide +kernel
theorem dX10_text_102 : am_at cX10_text 102 (.iconst 2) 1 103 := by decide +kernel
theorem dX10_text_103 : am_at cX10_text 103 (.iload_n 2) 1 104 := by decide +kernel
theorem dX10_text_104 : am_at cX10_text 104 (.imul) 1 105 := by decide +kernel
theorem dX10_text_105 : am_at cX10_text 105 (.iadd) 1 106 := by decide +kernel
theorem dX10_text_106 : am_at cX10_text 106 (.iconst 1) 1 107 := by decide +kernel
theorem dX10_text_107 : am_at cX10_text 107 (.iadd) 1 108 := by decide +kernel
theorem dX10_text_108 : am_at cX10_text 108 (.aload_n 0) 1 109 := by decide +kernel
theorem dX10_text_109 : am_at cX10_text 109 (.getfield 256) 3 112 := by decide +kernel
theorem dX10_text_112 : am_at cX10_text 112 (.iastore) 1 113 := by decide +kernel
theorem dX10_text_113 : am_at cX10_text 113 (.iconst 0) 1 114 := by decide +kernel
theorem dX10_text_114 : am_at cX10_text 114 (.istore_n 3) 1 115 := by decide +kernel
theorem dX10_text_115 : am_at cX10_text 115 (.iload_n 3) 1 116 := by decide +kernel
theorem dX10_text_116 : am_at cX10_text 116 (.aload_n 0) 1 117 := by decide +kernel
theorem dX10_text_117 : am_at cX10_text 117 (.getfield 250) 3 120 := by decide +kernel
theorem dX10_text_120 : am_at cX10_text 120 (.if_icmp .ge 29) 3 123 := by decide +kernel
theorem dX10_text_123 : am_at cX10_text 123 (.aload_n 0) 1 124 := by decide +kernel
theorem dX10_text_124 : am_at cX10_text 124 (.getfield 9) 3 127 := by decide +kernel
theorem dX10_text_127 : am_at cX10_text 127 (.bipush 104) 2 129 := by decide +kernel
theorem dX10_text_129 : am_at cX10_text 129 (.bipush 96) 2 131 := by decide +kernel
theorem dX10_text_131 : am_at cX10_text 131 (.iload_n 2) 1 132 := by decide +kernel
theorem dX10_text_132 : am_at cX10_text 132 (.imul) 1 133 := by decide +kernel
theorem dX10_text_133 : am_at cX10_text 133 (.iadd) 1 134 := by decide +kernel
theorem dX10_text_134 : am_at cX10_text 134 (.iload_n 3) 1 135 := by decide +kernel
theorem dX10_text_135 : am_at cX10_text 135 (.iadd) 1 136 := by decide +kernel
theorem dX10_text_136 : am_at cX10_text 136 (.aload_n 0) 1 137 := by decide +kernel
theorem dX10_text_137 : am_at cX10_text 137 (.getfield 41) 3 140 := by decide +kernel
theorem dX10_text_140 : am_at cX10_text 140 (.iload_n 3) 1 141 := by decide +kernel
theorem dX10_text_141 : am_at cX10_text 141 (.iaload) 1 142 := by decide +kernel
theorem dX10_text_142 : am_at cX10_text 142 (.iastore) 1 143 := by decide +kernel
theorem dX10_text_143 : am_at cX10_text 143 (.iinc 3 1) 3 146 := by decide +kernel
theorem dX10_text_146 : am_at cX10_text 146 (.goto (-31)) 3 149 := by decide +kernel
theorem dX10_text_149 : am_at cX10_text 149 (.aload_n 0) 1 150 := by decide +kernel
theorem dX10_text_150 : am_at cX10_text 150 (.getfield 9) 3 153 := by decide +kernel
theorem dX10_text_153 : am_at cX10_text 153 (.iconst 5) 1 154 := by decide +kernel
theorem dX10_text_154 : am_at cX10_text 154 (.dup2) 1 155 := by decide +kernel
theorem dX10_text_155 : am_at cX10_text 155 (.iaload) 1 156 := by decide +kernel
theorem dX10_text_156 : am_at cX10_text 156 (.iconst 1) 1 157 := by decide +kernel
theorem dX10_text_157 : am_at cX10_text 157 (.iadd) 1 158 := by decide +kernel
theorem dX10_text_158 : am_at cX10_text 158 (.iastore) 1 159 := by decide +kernel
theorem dX10_text_159 : am_at cX10_text 159 (.iload_n 2) 1 160 := by decide +kernel
theorem dX10_text_160 : am_at cX10_text 160 (.ireturn) 1 161 := by decide +kernel
def fxX10_text_b115 : Nat → Option Nat → Int32 → Int32 → am_H → Option (Int32 × am_H)
  | 0, _, _, _, _ => none
  | n + 1, l0, l2, l3, h => am_gd (am_ob h l0 10) (if (am_gi h l0 19) ≤ l3 then (am_gd (am_ob h l0 10) (am_gd (am_ix h (am_gr h l0 0) 0 (5 : Int32)) (am_gd (am_ix h (am_gr h l0 0) 0 (5 : Int32)) (am_lt (am_si h (am_gr h l0 0) (5 : Int32).toNatClampNeg ((am_gi h (am_gr h l0 0) (5 : Int32).toNatClampNeg) + (1 : Int32))) (fun h18 => some (l2, h18)))))) else (am_gd (am_ob h l0 10) (am_gd (am_ob h l0 10) (am_gd (am_ix h (am_gr h l0 18) 0 l3) (am_gd (am_ix h (am_gr h l0 0) 0 (((104 : Int32) + ((96 : Int32) * l2)) + l3)) (am_lt (am_si h (am_gr h l0 0) (((104 : Int32) + ((96 : Int32) * l2)) + l3).toNatClampNeg (am_gi h (am_gr h l0 18) l3.toNatClampNeg)) (fun h19 => am_lt (l3 + 1) (fun x20 => fxX10_text_b115 n l0 l2 x20 h19))))))))
set_option maxRecDepth 100000 in
theorem sxX10_text_b115 {xs : List Int32} : ∀ (n : Nat) (l0 : Option Nat) (l2 : Int32) (l3 : Int32) (h : am_H), am_Sm xs am_ci mX10_text 4 0 0 115 [some (am_R l0), none, some (am_I l2), some (am_I l3)] [] h (fxX10_text_b115 n l0 l2 l3 h) := by
  intro n
  induction n with
  | zero => intros; exact am_none
  | succ n ih =>
    intro l0 l2 l3 h
    rw [fxX10_text_b115]
    refine am_iload_n dX10_text_115 rfl ?_
    refine am_aload_n dX10_text_116 rfl ?_
    refine am_getI dX10_text_117 fk_RX10_250 rfl ?_
    refine am_icmp_ge (tgt := 149) dX10_text_120 (by decide) (fun c21 => ?_) (fun c21 => ?_)
    · refine am_aload_n dX10_text_149 rfl ?_
      refine am_getR dX10_text_150 fk_RX10_9 rfl ?_
      refine am_iconst (v := 5) dX10_text_153 (by decide) ?_
      refine am_dup2 dX10_text_154 ?_
      refine am_iald dX10_text_155 ?_
      refine am_iconst (v := 1) dX10_text_156 (by decide) ?_
      refine am_iadd dX10_text_157 ?_
      refine am_iast dX10_text_158 (fun h18 => ?_)
      refine am_iload_n dX10_text_159 rfl ?_
      exact am_iret dX10_text_160 rfl rfl
    refine am_aload_n dX10_text_123 rfl ?_
    refine am_getR dX10_text_124 fk_RX10_9 rfl ?_
    refine am_bipush (v := 104) dX10_text_127 (by decide) ?_
    refine am_bipush (v := 96) dX10_text_129 (by decide) ?_
    refine am_iload_n dX10_text_131 rfl ?_
    refine am_imul dX10_text_132 ?_
    refine am_iadd dX10_text_133 ?_
    refine am_iload_n dX10_text_134 rfl ?_
    refine am_iadd dX10_text_135 ?_
    refine am_aload_n dX10_text_136 rfl ?_
    refine am_getR dX10_text_137 fk_RX10_41 rfl ?_
    refine am_iload_n dX10_text_140 rfl ?_
    refine am_iald dX10_text_141 ?_
    refine am_iast dX10_text_142 (fun h19 => ?_)
    refine am_iinc (v := 1) (LL := fun y9 => [some (am_R l0), none, some (am_I l2), some (am_I y9)]) dX10_text_143 (by decide) rfl (by decide) (fun _ => rfl) (fun x20 => ?_)
    refine am_goto (tgt := 115) dX10_text_146 (by decide) ?_
    exact am_weak (ih l0 l2 x20 h19) ⟨rfl, ⟨rfl, ⟨rfl, trivial⟩⟩⟩ (Nat.le_refl _) (Nat.le_refl _)
def fxX10_text_b33 (l0 : Option Nat) (s0 : Int32) (h : am_H) : Option (Int32 × am_H) := am_lt s0 (fun x10 => am_gd (am_ob h l0 10) (am_lt (am_si h l0 9 (0 : Int32)) (fun h11 => if x10 = 0 then (am_gd (am_ob h11 l0 10) (some (((-100 : Int32) - (am_gi h11 l0 11)), h11))) else (am_gd (am_ob h11 l0 10) (am_gd (am_ix h11 (am_gr h11 l0 0) 0 (5 : Int32)) (if (am_gi h11 (am_gr h11 l0 0) (5 : Int32).toNatClampNeg) = (14 : Int32) then (some ((-1000000003 : Int32), h11)) else (am_gd (am_ob h11 l0 10) (am_gd (am_ix h11 (am_gr h11 l0 0) 0 (5 : Int32)) (am_lt (am_gi h11 (am_gr h11 l0 0) (5 : Int32).toNatClampNeg) (fun x12 => am_gd (am_ob h11 l0 10) (am_gd (am_ob h11 l0 10) (am_gd (am_ob h11 l0 10) (am_gd (am_ix h11 (am_gr h11 l0 0) 0 ((76 : Int32) + ((2 : Int32) * x12))) (am_lt (am_si h11 (am_gr h11 l0 0) ((76 : Int32) + ((2 : Int32) * x12)).toNatClampNeg (((1000 : Int32) * (am_gi h11 l0 15)) + (am_gi h11 l0 19))) (fun h13 => am_gd (am_ob h13 l0 10) (am_gd (am_ob h13 l0 10) (am_gd (am_ix h13 (am_gr h13 l0 0) 0 (((76 : Int32) + ((2 : Int32) * x12)) + (1 : Int32))) (am_lt (am_si h13 (am_gr h13 l0 0) (((76 : Int32) + ((2 : Int32) * x12)) + (1 : Int32)).toNatClampNeg (am_gi h13 l0 20)) (fun h14 => am_lt (0 : Int32) (fun x15 => fxX10_text_b115 am_F l0 x12 x15 h14))))))))))))))))))))
set_option maxRecDepth 100000 in
theorem sxX10_text_b33 {xs : List Int32} (l0 : Option Nat) (s0 : Int32) (h : am_H) : am_Sm xs am_ci mX10_text 4 0 0 33 [some (am_R l0), none, none, none] [am_I s0] h (fxX10_text_b33 l0 s0 h) := by
  unfold fxX10_text_b33
  refine am_istore_n (LL := fun y9 => [some (am_R l0), some (am_I y9), none, none]) dX10_text_33 (by decide) (fun _ => rfl) (fun x10 => ?_)
  refine am_aload_n dX10_text_34 rfl ?_
  refine am_iconst (v := 0) dX10_text_35 (by decide) ?_
  refine am_putI dX10_text_36 fk_RX10_213 ⟨_, rfl, Or.inl rfl⟩ rfl (fun h11 => ?_)
  refine am_iload_n dX10_text_39 rfl ?_
  refine am_if_ne (tgt := 51) dX10_text_40 (by decide) (fun c17 => ?_) (fun c17 => ?_)
  · refine am_aload_n dX10_text_51 rfl ?_
    refine am_getR dX10_text_52 fk_RX10_9 rfl ?_
    refine am_iconst (v := 5) dX10_text_55 (by decide) ?_
    refine am_iald dX10_text_56 ?_
    refine am_bipush (v := 14) dX10_text_57 (by decide) ?_
    refine am_icmp_ne (tgt := 65) dX10_text_59 (by decide) (fun c16 => ?_) (fun c16 => ?_)
    · refine am_aload_n dX10_text_65 rfl ?_
      refine am_getR dX10_text_66 fk_RX10_9 rfl ?_
      refine am_iconst (v := 5) dX10_text_69 (by decide) ?_
      refine am_iald dX10_text_70 ?_
      refine am_istore_n (LL := fun y9 => [some (am_R l0), some (am_I x10), some (am_I y9), none]) dX10_text_71 (by decide) (fun _ => rfl) (fun x12 => ?_)
      refine am_aload_n dX10_text_72 rfl ?_
      refine am_getR dX10_text_73 fk_RX10_9 rfl ?_
      refine am_bipush (v := 76) dX10_text_76 (by decide) ?_
      refine am_iconst (v := 2) dX10_text_78 (by decide) ?_
      refine am_iload_n dX10_text_79 rfl ?_
      refine am_imul dX10_text_80 ?_
      refine am_iadd dX10_text_81 ?_
      refine am_sipush (v := 1000) dX10_text_82 (by decide) ?_
      refine am_aload_n dX10_text_85 rfl ?_
      refine am_getI dX10_text_86 fk_RX10_238 rfl ?_
      refine am_imul dX10_text_89 ?_
      refine am_aload_n dX10_text_90 rfl ?_
      refine am_getI dX10_text_91 fk_RX10_250 rfl ?_
      refine am_iadd dX10_text_94 ?_
      refine am_iast dX10_text_95 (fun h13 => ?_)
      refine am_aload_n dX10_text_96 rfl ?_
      refine am_getR dX10_text_97 fk_RX10_9 rfl ?_
      refine am_bipush (v := 76) dX10_text_100 (by decide) ?_
      refine am_iconst (v := 2) dX10_text_102 (by decide) ?_
      refine am_iload_n dX10_text_103 rfl ?_
      refine am_imul dX10_text_104 ?_
      refine am_iadd dX10_text_105 ?_
      refine am_iconst (v := 1) dX10_text_106 (by decide) ?_
      refine am_iadd dX10_text_107 ?_
      refine am_aload_n dX10_text_108 rfl ?_
      refine am_getI dX10_text_109 fk_RX10_256 rfl ?_
      refine am_iast dX10_text_112 (fun h14 => ?_)
      refine am_iconst (v := 0) dX10_text_113 (by decide) ?_
      refine am_istore_n (LL := fun y9 => [some (am_R l0), some (am_I x10), some (am_I x12), some (am_I y9)]) dX10_text_114 (by decide) (fun _ => rfl) (fun x15 => ?_)
      exact am_weak (sxX10_text_b115 am_F l0 x12 x15 h14) ⟨rfl, ⟨rfl, ⟨rfl, trivial⟩⟩⟩ (Nat.le_refl _) (Nat.le_refl _)
    refine am_ldc (v := (-1000000003)) dX10_text_62 wd1061 ?_
    exact am_iret dX10_text_64 rfl rfl
  refine am_bipush (v := (-100)) dX10_text_43 (by decide) ?_
  refine am_aload_n dX10_text_45 rfl ?_
  refine am_getI dX10_text_46 fk_RX10_220 rfl ?_
  refine am_isub dX10_text_49 ?_
  exact am_iret dX10_text_50 rfl rfl
def fxX10_text_b32 (l0 : Option Nat) (h : am_H) : Option (Int32 × am_H) := fxX10_text_b33 l0 (0 : Int32) h
set_option maxRecDepth 100000 in
theorem sxX10_text_b32 {xs : List Int32} (l0 : Option Nat) (h : am_H) : am_Sm xs am_ci mX10_text 4 0 0 32 [some (am_R l0), none, none, none] [] h (fxX10_text_b32 l0 h) := by
  unfold fxX10_text_b32
  refine am_iconst (v := 0) dX10_text_32 (by decide) ?_
  exact am_weak (sxX10_text_b33 l0 (0 : Int32) h) ⟨rfl, trivial⟩ (Nat.le_refl _) (Nat.le_refl _)
def fxX10_text (l0 : Option Nat) (h : am_H) : Option (Int32 × am_H) := am_gd (am_ob h l0 10) (am_lt (am_si h l0 10 (0 : Int32)) (fun h1 => am_gd (am_ob h1 l0 10) (am_lt (am_si h1 l0 14 (-1 : Int32)) (fun h2 => am_gd (am_ob h2 l0 10) (am_bd (fxX10_go l0 h2) (fun _ h3 => am_gd (am_ob h3 l0 10) (am_bd (fxX10_takesKey l0 h3) (fun r4 h5 => if r4 = 0 then (fxX10_text_b32 l0 h5) else (am_gd (am_ob h5 l0 10) (am_bd (fxX10_takesE l0 h5) (fun r6 h7 => if r6 = 0 then (fxX10_text_b32 l0 h7) else (fxX10_text_b33 l0 (1 : Int32) h7))))))))))))
set_option maxRecDepth 100000 in
theorem sxX10_text {xs : List Int32} (l0 : Option Nat) (h : am_H) : am_Sm xs am_ci mX10_text 4 0 0 0 [some (am_R l0), none, none, none] [] h (fxX10_text l0 h) := by
  unfold fxX10_text
  refine am_aload_n dX10_text_0 rfl ?_
  refine am_iconst (v := 0) dX10_text_1 (by decide) ?_
  refine am_putI dX10_text_2 fk_RX10_217 ⟨_, rfl, Or.inl rfl⟩ rfl (fun h1 => ?_)
  refine am_aload_n dX10_text_5 rfl ?_
  refine am_iconst (v := (-1)) dX10_text_6 (by decide) ?_
  refine am_putI dX10_text_7 fk_RX10_223 ⟨_, rfl, Or.inl rfl⟩ rfl (fun h2 => ?_)
  refine am_aload_n dX10_text_10 rfl ?_
  refine am_callV (cvj := am_cu) (mtj := mX10_go) (dj := 1) (nj := 0) (rcj := 0) (rsj := 0) (rc' := 0) (rs' := 0) (ci := 10) (st' := fun _ => []) ⟨_, rfl, rfl⟩ [] [] dX10_text_11 okX10_go lk_RX10_241 (fun zA zH zE => txX10_go l0 h2 zA zH zE) rfl (fun _ => rfl) (by decide) rfl (Nat.le_of_ble_eq_true rfl) (by decide) (by decide) (fun _ h3 => ?_)
  refine am_aload_n dX10_text_14 rfl ?_
  refine am_callV (cvj := am_ci) (mtj := mX10_takesKey) (dj := 2) (nj := 0) (rcj := 0) (rsj := 0) (rc' := 0) (rs' := 0) (ci := 10) (st' := fun a9 => (am_I a9 :: [])) ⟨_, rfl, rfl⟩ [] [] dX10_text_15 okX10_takesKey lk_RX10_273 (fun zA zH zE => txX10_takesKey l0 h3 zA zH zE) rfl (fun _ => rfl) (by decide) rfl (Nat.le_of_ble_eq_true rfl) (by decide) (by decide) (fun r4 h5 => ?_)
  refine am_if_eq (tgt := 32) dX10_text_18 (by decide) (fun c9 => ?_) (fun c9 => ?_)
  · exact am_weak (sxX10_text_b32 l0 h5) ⟨rfl, trivial⟩ (Nat.le_refl _) (Nat.le_refl _)
  refine am_aload_n dX10_text_21 rfl ?_
  refine am_callV (cvj := am_ci) (mtj := mX10_takesE) (dj := 3) (nj := 0) (rcj := 0) (rsj := 0) (rc' := 0) (rs' := 0) (ci := 10) (st' := fun a9 => (am_I a9 :: [])) ⟨_, rfl, rfl⟩ [] [] dX10_text_22 okX10_takesE lk_RX10_276 (fun zA zH zE => txX10_takesE l0 h5 zA zH zE) rfl (fun _ => rfl) (by decide) rfl (Nat.le_of_ble_eq_true rfl) (by decide) (by decide) (fun r6 h7 => ?_)
  refine am_if_eq (tgt := 32) dX10_text_25 (by decide) (fun c8 => ?_) (fun c8 => ?_)
  · exact am_weak (sxX10_text_b32 l0 h7) ⟨rfl, trivial⟩ (Nat.le_refl _) (Nat.le_refl _)
  refine am_iconst (v := 1) dX10_text_28 (by decide) ?_
  refine am_goto (tgt := 33) dX10_text_29 (by decide) ?_
  exact am_weak (sxX10_text_b33 l0 (1 : Int32) h7) ⟨rfl, trivial⟩ (Nat.le_refl _) (Nat.le_refl _)
theorem txX10_text {xs : List Int32} (l0 : Option Nat) (h : am_H) (a : Int32) (h2 : am_H) (e : fxX10_text l0 h = some (a, h2)) : am_Ct xs mX10_text 4 0 0 [am_R l0] h (fun v h3 => v = am_ci a ∧ h3 = h2) := am_meth okX10_text (Nat.le_of_ble_eq_true rfl) rfl (sxX10_text l0 h) e
