theorem dX10_doesFit_0 : am_at cX10_doesFit 0 (.aload_n 0) 1 1 := by decide +kernel
theorem dX10_doesFit_1 : am_at cX10_doesFit 1 (.iload_n 1) 1 2 := by decide +kernel
theorem dX10_doesFit_2 : am_at cX10_doesFit 2 (.iconst 2) 1 3 := by decide +kernel
theorem dX10_doesFit_3 : am_at cX10_doesFit 3 (.invokevirtual 99) 3 6 := by decide +kernel
theorem dX10_doesFit_6 : am_at cX10_doesFit 6 (.aload_n 0) 1 7 := by decide +kernel
theorem dX10_doesFit_7 : am_at cX10_doesFit 7 (.iload_n 2) 1 8 := by decide +kernel
theorem dX10_doesFit_8 : am_at cX10_doesFit 8 (.iconst 2) 1 9 := by decide +kernel
theorem dX10_doesFit_9 : am_at cX10_doesFit 9 (.invokevirtual 99) 3 12 := by decide +kernel
theorem dX10_doesFit_12 : am_at cX10_doesFit 12 (.isub) 1 13 := by decide +kernel
theorem dX10_doesFit_13 : am_at cX10_doesFit 13 (.istore_n 3) 1 14 := by decide +kernel
theorem dX10_doesFit_14 : am_at cX10_doesFit 14 (.iload_n 3) 1 15 := by decide +kernel
theorem dX10_doesFit_15 : am_at cX10_doesFit 15 (.ifCond .ne 7) 3 18 := by decide +kernel
theorem dX10_doesFit_18 : am_at cX10_doesFit 18 (.iconst 1) 1 19 := by decide +kernel
theorem dX10_doesFit_19 : am_at cX10_doesFit 19 (.goto 4) 3 22 := by decide +kernel
theorem dX10_doesFit_22 : am_at cX10_doesFit 22 (.iconst 0) 1 23 := by decide +kernel
theorem dX10_doesFit_23 : am_at cX10_doesFit 23 (.istore 4) 2 25 := by decide +kernel
theorem dX10_doesFit_25 : am_at cX10_doesFit 25 (.iload_n 3) 1 26 := by decide +kernel
theorem dX10_doesFit_26 : am_at cX10_doesFit 26 (.iconst (-1)) 1 27 := by decide +kernel
theorem dX10_doesFit_27 : am_at cX10_doesFit 27 (.iconst 1) 1 28 := by decide +kernel
theorem dX10_doesFit_28 : am_at cX10_doesFit 28 (.invokestatic 85) 3 31 := by decide +kernel
theorem dX10_doesFit_31 : am_at cX10_doesFit 31 (.istore 5) 2 33 := by decide +kernel
theorem dX10_doesFit_33 : am_at cX10_doesFit 33 (.aload_n 0) 1 34 := by decide +kernel
theorem dX10_doesFit_34 : am_at cX10_doesFit 34 (.iload_n 1) 1 35 := by decide +kernel
theorem dX10_doesFit_35 : am_at cX10_doesFit 35 (.iconst 4) 1 36 := by decide +kernel
theorem dX10_doesFit_36 : am_at cX10_doesFit 36 (.invokevirtual 99) 3 39 := by decide +kernel
theorem dX10_doesFit_39 : am_at cX10_doesFit 39 (.bipush 50) 2 41 := by decide +kernel
theorem dX10_doesFit_41 : am_at cX10_doesFit 41 (.if_icmp .ge 18) 3 44 := by decide +kernel
theorem dX10_doesFit_44 : am_at cX10_doesFit 44 (.aload_n 0) 1 45 := by decide +kernel
theorem dX10_doesFit_45 : am_at cX10_doesFit 45 (.iload_n 2) 1 46 := by decide +kernel
theorem dX10_doesFit_46 : am_at cX10_doesFit 46 (.iconst 4) 1 47 := by decide +kernel
theorem dX10_doesFit_47 : am_at cX10_doesFit 47 (.invokevirtual 99) 3 50 := by decide +kernel
theorem dX10_doesFit_50 : am_at cX10_doesFit 50 (.bipush 50) 2 52 := by decide +kernel
theorem dX10_doesFit_52 : am_at cX10_doesFit 52 (.if_icmp .ge 7) 3 55 := by decide +kernel
theorem dX10_doesFit_55 : am_at cX10_doesFit 55 (.iconst 1) 1 56 := by decide +kernel
theorem dX10_doesFit_56 : am_at cX10_doesFit 56 (.goto 4) 3 59 := by decide +kernel
theorem dX10_doesFit_59 : am_at cX10_doesFit 59 (.iconst 0) 1 60 := by decide +kernel
theorem dX10_doesFit_60 : am_at cX10_doesFit 60 (.istore 6) 2 62 := by decide +kernel
theorem dX10_doesFit_62 : am_at cX10_doesFit 62 (.aload_n 0) 1 63 := by decide +kernel
theorem dX10_doesFit_63 : am_at cX10_doesFit 63 (.iload_n 1) 1 64 := by decide +kernel
theorem dX10_doesFit_64 : am_at cX10_doesFit 64 (.iconst 0) 1 65 := by decide +kernel
theorem dX10_doesFit_65 : am_at cX10_doesFit 65 (.invokevirtual 99) 3 68 := by decide +kernel
theorem dX10_doesFit_68 : am_at cX10_doesFit 68 (.tableswitch 111 1 5 #[36, 52, 55, 88, 109]) 36 104 := by decide +kernel
theorem dX10_doesFit_104 : am_at cX10_doesFit 104 (.iload 4) 2 106 := by decide +kernel
theorem dX10_doesFit_106 : am_at cX10_doesFit 106 (.ifCond .eq 12) 3 109 := by decide +kernel
theorem dX10_doesFit_109 : am_at cX10_doesFit 109 (.iload 6) 2 111 := by decide +kernel
theorem dX10_doesFit_111 : am_at cX10_doesFit 111 (.ifCond .eq 7) 3 114 := by decide +kernel
theorem dX10_doesFit_114 : am_at cX10_doesFit 114 (.iconst 1) 1 115 := by decide +kernel
theorem dX10_doesFit_115 : am_at cX10_doesFit 115 (.goto 4) 3 118 := by decide +kernel
theorem dX10_doesFit_118 : am_at cX10_doesFit 118 (.iconst 0) 1 119 := by decide +kernel
theorem dX10_doesFit_119 : am_at cX10_doesFit 119 (.ireturn) 1 120 := by decide +kernel
theorem dX10_doesFit_120 : am_at cX10_doesFit 120 (.iload 5) 2 122 := by decide +kernel
theorem dX10_doesFit_122 : am_at cX10_doesFit 122 (.ireturn) 1 123 := by decide +kernel
theorem dX10_doesFit_123 : am_at cX10_doesFit 123 (.iload 4) 2 125 := by decide +kernel
theorem dX10_doesFit_125 : am_at cX10_doesFit 125 (.ifCond .eq 29) 3 128 := by decide +kernel
theorem dX10_doesFit_128 : am_at cX10_doesFit 128 (.iload 6) 2 130 := by decide +kernel
theorem dX10_doesFit_130 : am_at cX10_doesFit 130 (.ifCond .eq 24) 3 133 := by decide +kernel
theorem dX10_doesFit_133 : am_at cX10_doesFit 133 (.aload_n 0) 1 134 := by decide +kernel
theorem dX10_doesFit_134 : am_at cX10_doesFit 134 (.iload_n 2) 1 135 := by decide +kernel
theorem dX10_doesFit_135 : am_at cX10_doesFit 135 (.iconst 3) 1 136 := by decide +kernel
theorem dX10_doesFit_136 : am_at cX10_doesFit 136 (.invokevirtual 99) 3 139 := by decide +kernel
theorem dX10_doesFit_139 : am_at cX10_doesFit 139 (.aload_n 0) 1 140 := by decide +kernel
theorem dX10_doesFit_140 : am_at cX10_doesFit 140 (.iload_n 1) 1 141 := by decide +kernel
theorem dX10_doesFit_141 : am_at cX10_doesFit 141 (.iconst 3) 1 142 := by decide +kernel
theorem dX10_doesFit_142 : am_at cX10_doesFit 142 (.invokevirtual 99) 3 145 := by decide +kernel
theorem dX10_doesFit_145 : am_at cX10_doesFit 145 (.iconst 2) 1 146 := by decide +kernel
theorem dX10_doesFit_146 : am_at cX10_doesFit 146 (.idiv) 1 147 := by decide +kernel
theorem dX10_doesFit_147 : am_at cX10_doesFit 147 (.if_icmp .lt 7) 3 150 := by decide +kernel
theorem dX10_doesFit_150 : am_at cX10_doesFit 150 (.iconst 1) 1 151 := by decide +kernel
theorem dX10_doesFit_151 : am_at cX10_doesFit 151 (.goto 4) 3 154 := by decide +kernel
theorem dX10_doesFit_154 : am_at cX10_doesFit 154 (.iconst 0) 1 155 := by decide +kernel
theorem dX10_doesFit_155 : am_at cX10_doesFit 155 (.ireturn) 1 156 := by decide +kernel
theorem dX10_doesFit_156 : am_at cX10_doesFit 156 (.iload 5) 2 158 := by decide +kernel
theorem dX10_doesFit_158 : am_at cX10_doesFit 158 (.ifCond .eq 17) 3 161 := by decide +kernel
theorem dX10_doesFit_161 : am_at cX10_doesFit 161 (.aload_n 0) 1 162 := by decide +kernel
theorem dX10_doesFit_162 : am_at cX10_doesFit 162 (.iload_n 2) 1 163 := by decide +kernel
theorem dX10_doesFit_163 : am_at cX10_doesFit 163 (.iconst 0) 1 164 := by decide +kernel
theorem dX10_doesFit_164 : am_at cX10_doesFit 164 (.invokevirtual 99) 3 167 := by decide +kernel
theorem dX10_doesFit_167 : am_at cX10_doesFit 167 (.iconst 4) 1 168 := by decide +kernel
theorem dX10_doesFit_168 : am_at cX10_doesFit 168 (.if_icmp .eq 7) 3 171 := by decide +kernel
theorem dX10_doesFit_171 : am_at cX10_doesFit 171 (.iconst 1) 1 172 := by decide +kernel
theorem dX10_doesFit_172 : am_at cX10_doesFit 172 (.goto 4) 3 175 := by decide +kernel
theorem dX10_doesFit_175 : am_at cX10_doesFit 175 (.iconst 0) 1 176 := by decide +kernel
theorem dX10_doesFit_176 : am_at cX10_doesFit 176 (.ireturn) 1 177 := by decide +kernel
theorem dX10_doesFit_177 : am_at cX10_doesFit 177 (.iconst 1) 1 178 := by decide +kernel
theorem dX10_doesFit_178 : am_at cX10_doesFit 178 (.ireturn) 1 179 := by decide +kernel
theorem dX10_doesFit_179 : am_at cX10_doesFit 179 (.iload 4) 2 181 := by decide +kernel
theorem dX10_doesFit_181 : am_at cX10_doesFit 181 (.ireturn) 1 182 := by decide +kernel
def fxX10_doesFit_b60 (l0 : Option Nat) (l1 : Int32) (l2 : Int32) (l4 : Int32) (l5 : Int32) (s0 : Int32) (h : am_H) : Option (Int32 × am_H) := am_lt s0 (fun x17 => am_gd (am_ob h l0 10) (am_bd (fxX10_of l0 l1 (0 : Int32) h) (fun r18 h19 => if r18 = 1 then (if l4 = 0 then (am_gd (am_bz (0 : Int32)) (some ((0 : Int32), h19))) else (if x17 = 0 then (am_gd (am_bz (0 : Int32)) (some ((0 : Int32), h19))) else (am_gd (am_bz (1 : Int32)) (some ((1 : Int32), h19))))) else (if r18 = 2 then (am_gd (am_bz l5) (some (l5, h19))) else (if r18 = 3 then (if l4 = 0 then (am_gd (am_bz (0 : Int32)) (some ((0 : Int32), h19))) else (if x17 = 0 then (am_gd (am_bz (0 : Int32)) (some ((0 : Int32), h19))) else (am_gd (am_ob h19 l0 10) (am_bd (fxX10_of l0 l2 (3 : Int32) h19) (fun r24 h25 => am_gd (am_ob h25 l0 10) (am_bd (fxX10_of l0 l1 (3 : Int32) h25) (fun r26 h27 => am_gd (am_nz (2 : Int32)) (if r24 < (r26 / (2 : Int32)) then (am_gd (am_bz (0 : Int32)) (some ((0 : Int32), h27))) else (am_gd (am_bz (1 : Int32)) (some ((1 : Int32), h27))))))))))) else (if r18 = 4 then (if l5 = 0 then (am_gd (am_bz (0 : Int32)) (some ((0 : Int32), h19))) else (am_gd (am_ob h19 l0 10) (am_bd (fxX10_of l0 l2 (0 : Int32) h19) (fun r32 h33 => if r32 = (4 : Int32) then (am_gd (am_bz (0 : Int32)) (some ((0 : Int32), h33))) else (am_gd (am_bz (1 : Int32)) (some ((1 : Int32), h33))))))) else (if r18 = 5 then (am_gd (am_bz (1 : Int32)) (some ((1 : Int32), h19))) else (am_gd (am_bz l4) (some (l4, h19))))))))))
set_option maxRecDepth 100000 in
theorem sxX10_doesFit_b60 {xs : List Int32} (l0 : Option Nat) (l1 : Int32) (l2 : Int32) (l4 : Int32) (l5 : Int32) (s0 : Int32) (h : am_H) : am_Sm xs am_ci mX10_doesFit 1 0 0 60 [some (am_R l0), some (am_I l1), some (am_I l2), none, some (am_I l4), some (am_I l5), none] [am_I s0] h (fxX10_doesFit_b60 l0 l1 l2 l4 l5 s0 h) := by
  unfold fxX10_doesFit_b60
  refine am_istore (LL := fun y9 => [some (am_R l0), some (am_I l1), some (am_I l2), none, some (am_I l4), some (am_I l5), some (am_I y9)]) dX10_doesFit_60 (by decide) (fun _ => rfl) (fun x17 => ?_)
  refine am_aload_n dX10_doesFit_62 rfl ?_
  refine am_iload_n dX10_doesFit_63 rfl ?_
  refine am_iconst (v := 0) dX10_doesFit_64 (by decide) ?_
  refine am_callV (cvj := am_ci) (mtj := mX10_of) (dj := 0) (nj := 2) (rcj := 0) (rsj := 0) (rc' := 0) (rs' := 0) (ci := 10) (st' := fun a9 => (am_I a9 :: [])) ⟨_, rfl, rfl⟩ [am_I l1, am_I (0 : Int32)] [] dX10_doesFit_65 okX10_of lk_RX10_99 (fun zA zH zE => txX10_of l0 l1 (0 : Int32) h zA zH zE) rfl (fun _ => rfl) (by decide) rfl (Nat.le_of_ble_eq_true rfl) (by decide) (by decide) (fun r18 h19 => ?_)
  refine am_table (cs := [(1, 104), (2, 120), (3, 123), (4, 156), (5, 177)]) (dt := 179) dX10_doesFit_68 (by decide +kernel) ?_
  refine am_sw_cons (fun c22 => ?_) (fun c22 => ?_)
  · refine am_iload dX10_doesFit_104 rfl ?_
    refine am_if_eq (tgt := 118) dX10_doesFit_106 (by decide) (fun c21 => ?_) (fun c21 => ?_)
    · refine am_iconst (v := 0) dX10_doesFit_118 (by decide) ?_
      exact am_zret dX10_doesFit_119 rfl rfl
    refine am_iload dX10_doesFit_109 rfl ?_
    refine am_if_eq (tgt := 118) dX10_doesFit_111 (by decide) (fun c20 => ?_) (fun c20 => ?_)
    · refine am_iconst (v := 0) dX10_doesFit_118 (by decide) ?_
      exact am_zret dX10_doesFit_119 rfl rfl
    refine am_iconst (v := 1) dX10_doesFit_114 (by decide) ?_
    refine am_goto (tgt := 119) dX10_doesFit_115 (by decide) ?_
    exact am_zret dX10_doesFit_119 rfl rfl
  refine am_sw_cons (fun c23 => ?_) (fun c23 => ?_)
  · refine am_iload dX10_doesFit_120 rfl ?_
    exact am_zret dX10_doesFit_122 rfl rfl
  refine am_sw_cons (fun c31 => ?_) (fun c31 => ?_)
  · refine am_iload dX10_doesFit_123 rfl ?_
    refine am_if_eq (tgt := 154) dX10_doesFit_125 (by decide) (fun c30 => ?_) (fun c30 => ?_)
    · refine am_iconst (v := 0) dX10_doesFit_154 (by decide) ?_
      exact am_zret dX10_doesFit_155 rfl rfl
    refine am_iload dX10_doesFit_128 rfl ?_
    refine am_if_eq (tgt := 154) dX10_doesFit_130 (by decide) (fun c29 => ?_) (fun c29 => ?_)
    · refine am_iconst (v := 0) dX10_doesFit_154 (by decide) ?_
      exact am_zret dX10_doesFit_155 rfl rfl
    refine am_aload_n dX10_doesFit_133 rfl ?_
    refine am_iload_n dX10_doesFit_134 rfl ?_
    refine am_iconst (v := 3) dX10_doesFit_135 (by decide) ?_
    refine am_callV (cvj := am_ci) (mtj := mX10_of) (dj := 0) (nj := 2) (rcj := 0) (rsj := 0) (rc' := 0) (rs' := 0) (ci := 10) (st' := fun a9 => (am_I a9 :: [])) ⟨_, rfl, rfl⟩ [am_I l2, am_I (3 : Int32)] [] dX10_doesFit_136 okX10_of lk_RX10_99 (fun zA zH zE => txX10_of l0 l2 (3 : Int32) h19 zA zH zE) rfl (fun _ => rfl) (by decide) rfl (Nat.le_of_ble_eq_true rfl) (by decide) (by decide) (fun r24 h25 => ?_)
    refine am_aload_n dX10_doesFit_139 rfl ?_
    refine am_iload_n dX10_doesFit_140 rfl ?_
    refine am_iconst (v := 3) dX10_doesFit_141 (by decide) ?_
    refine am_callV (cvj := am_ci) (mtj := mX10_of) (dj := 0) (nj := 2) (rcj := 0) (rsj := 0) (rc' := 0) (rs' := 0) (ci := 10) (st' := fun a9 => (am_I a9 :: [am_I r24])) ⟨_, rfl, rfl⟩ [am_I l1, am_I (3 : Int32)] [am_I r24] dX10_doesFit_142 okX10_of lk_RX10_99 (fun zA zH zE => txX10_of l0 l1 (3 : Int32) h25 zA zH zE) rfl (fun _ => rfl) (by decide) rfl (Nat.le_of_ble_eq_true rfl) (by decide) (by decide) (fun r26 h27 => ?_)
    refine am_iconst (v := 2) dX10_doesFit_145 (by decide) ?_
    refine am_idiv dX10_doesFit_146 ?_
    refine am_icmp_lt (tgt := 154) dX10_doesFit_147 (by decide) (fun c28 => ?_) (fun c28 => ?_)
    · refine am_iconst (v := 0) dX10_doesFit_154 (by decide) ?_
      exact am_zret dX10_doesFit_155 rfl rfl
    refine am_iconst (v := 1) dX10_doesFit_150 (by decide) ?_
    refine am_goto (tgt := 155) dX10_doesFit_151 (by decide) ?_
    exact am_zret dX10_doesFit_155 rfl rfl
  refine am_sw_cons (fun c36 => ?_) (fun c36 => ?_)
  · refine am_iload dX10_doesFit_156 rfl ?_
    refine am_if_eq (tgt := 175) dX10_doesFit_158 (by decide) (fun c35 => ?_) (fun c35 => ?_)
    · refine am_iconst (v := 0) dX10_doesFit_175 (by decide) ?_
      exact am_zret dX10_doesFit_176 rfl rfl
    refine am_aload_n dX10_doesFit_161 rfl ?_
    refine am_iload_n dX10_doesFit_162 rfl ?_
    refine am_iconst (v := 0) dX10_doesFit_163 (by decide) ?_
    refine am_callV (cvj := am_ci) (mtj := mX10_of) (dj := 0) (nj := 2) (rcj := 0) (rsj := 0) (rc' := 0) (rs' := 0) (ci := 10) (st' := fun a9 => (am_I a9 :: [])) ⟨_, rfl, rfl⟩ [am_I l2, am_I (0 : Int32)] [] dX10_doesFit_164 okX10_of lk_RX10_99 (fun zA zH zE => txX10_of l0 l2 (0 : Int32) h19 zA zH zE) rfl (fun _ => rfl) (by decide) rfl (Nat.le_of_ble_eq_true rfl) (by decide) (by decide) (fun r32 h33 => ?_)
    refine am_iconst (v := 4) dX10_doesFit_167 (by decide) ?_
    refine am_icmp_eq (tgt := 175) dX10_doesFit_168 (by decide) (fun c34 => ?_) (fun c34 => ?_)
    · refine am_iconst (v := 0) dX10_doesFit_175 (by decide) ?_
      exact am_zret dX10_doesFit_176 rfl rfl
    refine am_iconst (v := 1) dX10_doesFit_171 (by decide) ?_
    refine am_goto (tgt := 176) dX10_doesFit_172 (by decide) ?_
    exact am_zret dX10_doesFit_176 rfl rfl
  refine am_sw_cons (fun c37 => ?_) (fun c37 => ?_)
  · refine am_iconst (v := 1) dX10_doesFit_177 (by decide) ?_
    exact am_zret dX10_doesFit_178 rfl rfl
  refine am_sw_nil ?_
  refine am_iload dX10_doesFit_179 rfl ?_
  exact am_zret dX10_doesFit_181 rfl rfl
def fxX10_doesFit_b59 (l0 : Option Nat) (l1 : Int32) (l2 : Int32) (l4 : Int32) (l5 : Int32) (h : am_H) : Option (Int32 × am_H) := fxX10_doesFit_b60 l0 l1 l2 l4 l5 (0 : Int32) h
set_option maxRecDepth 100000 in
theorem sxX10_doesFit_b59 {xs : List Int32} (l0 : Option Nat) (l1 : Int32) (l2 : Int32) (l4 : Int32) (l5 : Int32) (h : am_H) : am_Sm xs am_ci mX10_doesFit 1 0 0 59 [some (am_R l0), some (am_I l1), some (am_I l2), none, some (am_I l4), some (am_I l5), none] [] h (fxX10_doesFit_b59 l0 l1 l2 l4 l5 h) := by
  unfold fxX10_doesFit_b59
  refine am_iconst (v := 0) dX10_doesFit_59 (by decide) ?_
  exact am_weak (sxX10_doesFit_b60 l0 l1 l2 l4 l5 (0 : Int32) h) ⟨rfl, ⟨rfl, ⟨rfl, ⟨rfl, ⟨rfl, trivial⟩⟩⟩⟩⟩ (Nat.le_refl _) (Nat.le_refl _)
def fxX10_doesFit_b23 (l0 : Option Nat) (l1 : Int32) (l2 : Int32) (l3 : Int32) (s0 : Int32) (h : am_H) : Option (Int32 × am_H) := am_lt s0 (fun x7 => am_bd (fxX10_in l3 (-1 : Int32) (1 : Int32) h) (fun r8 h9 => am_lt r8 (fun x10 => am_gd (am_ob h9 l0 10) (am_bd (fxX10_of l0 l1 (4 : Int32) h9) (fun r11 h12 => if (50 : Int32) ≤ r11 then (fxX10_doesFit_b59 l0 l1 l2 x7 x10 h12) else (am_gd (am_ob h12 l0 10) (am_bd (fxX10_of l0 l2 (4 : Int32) h12) (fun r13 h14 => if (50 : Int32) ≤ r13 then (fxX10_doesFit_b59 l0 l1 l2 x7 x10 h14) else (fxX10_doesFit_b60 l0 l1 l2 x7 x10 (1 : Int32) h14)))))))))
set_option maxRecDepth 100000 in
theorem sxX10_doesFit_b23 {xs : List Int32} (l0 : Option Nat) (l1 : Int32) (l2 : Int32) (l3 : Int32) (s0 : Int32) (h : am_H) : am_Sm xs am_ci mX10_doesFit 1 0 0 23 [some (am_R l0), some (am_I l1), some (am_I l2), some (am_I l3), none, none, none] [am_I s0] h (fxX10_doesFit_b23 l0 l1 l2 l3 s0 h) := by
  unfold fxX10_doesFit_b23
  refine am_istore (LL := fun y9 => [some (am_R l0), some (am_I l1), some (am_I l2), some (am_I l3), some (am_I y9), none, none]) dX10_doesFit_23 (by decide) (fun _ => rfl) (fun x7 => ?_)
  refine am_iload_n dX10_doesFit_25 rfl ?_
  refine am_iconst (v := (-1)) dX10_doesFit_26 (by decide) ?_
  refine am_iconst (v := 1) dX10_doesFit_27 (by decide) ?_
  refine am_callS (cvj := am_ci) (mtj := mX10_in) (dj := 0) (nj := 3) (rcj := 0) (rsj := 0) (rc' := 0) (rs' := 0) (st' := fun a9 => (am_I a9 :: [])) [am_I l3, am_I (-1 : Int32), am_I (1 : Int32)] [] dX10_doesFit_28 okX10_in lk_RX10_85 (fun zA zH zE => txX10_in l3 (-1 : Int32) (1 : Int32) h zA zH zE) rfl (fun _ => rfl) (by decide) rfl (Nat.le_of_ble_eq_true rfl) (by decide) (by decide) (fun r8 h9 => ?_)
  refine am_istore (LL := fun y9 => [some (am_R l0), some (am_I l1), some (am_I l2), some (am_I l3), some (am_I x7), some (am_I y9), none]) dX10_doesFit_31 (by decide) (fun _ => rfl) (fun x10 => ?_)
  refine am_aload_n dX10_doesFit_33 rfl ?_
  refine am_iload_n dX10_doesFit_34 rfl ?_
  refine am_iconst (v := 4) dX10_doesFit_35 (by decide) ?_
  refine am_callV (cvj := am_ci) (mtj := mX10_of) (dj := 0) (nj := 2) (rcj := 0) (rsj := 0) (rc' := 0) (rs' := 0) (ci := 10) (st' := fun a9 => (am_I a9 :: [])) ⟨_, rfl, rfl⟩ [am_I l1, am_I (4 : Int32)] [] dX10_doesFit_36 okX10_of lk_RX10_99 (fun zA zH zE => txX10_of l0 l1 (4 : Int32) h9 zA zH zE) rfl (fun _ => rfl) (by decide) rfl (Nat.le_of_ble_eq_true rfl) (by decide) (by decide) (fun r11 h12 => ?_)
  refine am_bipush (v := 50) dX10_doesFit_39 (by decide) ?_
  refine am_icmp_ge (tgt := 59) dX10_doesFit_41 (by decide) (fun c16 => ?_) (fun c16 => ?_)
  · exact am_weak (sxX10_doesFit_b59 l0 l1 l2 x7 x10 h12) ⟨rfl, ⟨rfl, ⟨rfl, ⟨rfl, ⟨rfl, trivial⟩⟩⟩⟩⟩ (Nat.le_refl _) (Nat.le_refl _)
  refine am_aload_n dX10_doesFit_44 rfl ?_
  refine am_iload_n dX10_doesFit_45 rfl ?_
  refine am_iconst (v := 4) dX10_doesFit_46 (by decide) ?_
  refine am_callV (cvj := am_ci) (mtj := mX10_of) (dj := 0) (nj := 2) (rcj := 0) (rsj := 0) (rc' := 0) (rs' := 0) (ci := 10) (st' := fun a9 => (am_I a9 :: [])) ⟨_, rfl, rfl⟩ [am_I l2, am_I (4 : Int32)] [] dX10_doesFit_47 okX10_of lk_RX10_99 (fun zA zH zE => txX10_of l0 l2 (4 : Int32) h12 zA zH zE) rfl (fun _ => rfl) (by decide) rfl (Nat.le_of_ble_eq_true rfl) (by decide) (by decide) (fun r13 h14 => ?_)
  refine am_bipush (v := 50) dX10_doesFit_50 (by decide) ?_
  refine am_icmp_ge (tgt := 59) dX10_doesFit_52 (by decide) (fun c15 => ?_) (fun c15 => ?_)
  · exact am_weak (sxX10_doesFit_b59 l0 l1 l2 x7 x10 h14) ⟨rfl, ⟨rfl, ⟨rfl, ⟨rfl, ⟨rfl, trivial⟩⟩⟩⟩⟩ (Nat.le_refl _) (Nat.le_refl _)
  refine am_iconst (v := 1) dX10_doesFit_55 (by decide) ?_
  refine am_goto (tgt := 60) dX10_doesFit_56 (by decide) ?_
  exact am_weak (sxX10_doesFit_b60 l0 l1 l2 x7 x10 (1 : Int32) h14) ⟨rfl, ⟨rfl, ⟨rfl, ⟨rfl, ⟨rfl, trivial⟩⟩⟩⟩⟩ (Nat.le_refl _) (Nat.le_refl _)
def fxX10_doesFit (l0 : Option Nat) (l1 : Int32) (l2 : Int32) (h : am_H) : Option (Int32 × am_H) := am_gd (am_ob h l0 10) (am_bd (fxX10_of l0 l1 (2 : Int32) h) (fun r1 h2 => am_gd (am_ob h2 l0 10) (am_bd (fxX10_of l0 l2 (2 : Int32) h2) (fun r3 h4 => am_lt (r1 - r3) (fun x5 => if x5 = 0 then (fxX10_doesFit_b23 l0 l1 l2 x5 (1 : Int32) h4) else (fxX10_doesFit_b23 l0 l1 l2 x5 (0 : Int32) h4))))))
set_option maxRecDepth 100000 in
theorem sxX10_doesFit {xs : List Int32} (l0 : Option Nat) (l1 : Int32) (l2 : Int32) (h : am_H) : am_Sm xs am_ci mX10_doesFit 1 0 0 0 [some (am_R l0), some (am_I l1), some (am_I l2), none, none, none, none] [] h (fxX10_doesFit l0 l1 l2 h) := by
  unfold fxX10_doesFit
  refine am_aload_n dX10_doesFit_0 rfl ?_
  refine am_iload_n dX10_doesFit_1 rfl ?_
  refine am_iconst (v := 2) dX10_doesFit_2 (by decide) ?_
  refine am_callV (cvj := am_ci) (mtj := mX10_of) (dj := 0) (nj := 2) (rcj := 0) (rsj := 0) (rc' := 0) (rs' := 0) (ci := 10) (st' := fun a9 => (am_I a9 :: [])) ⟨_, rfl, rfl⟩ [am_I l1, am_I (2 : Int32)] [] dX10_doesFit_3 okX10_of lk_RX10_99 (fun zA zH zE => txX10_of l0 l1 (2 : Int32) h zA zH zE) rfl (fun _ => rfl) (by decide) rfl (Nat.le_of_ble_eq_true rfl) (by decide) (by decide) (fun r1 h2 => ?_)
  refine am_aload_n dX10_doesFit_6 rfl ?_
  refine am_iload_n dX10_doesFit_7 rfl ?_
  refine am_iconst (v := 2) dX10_doesFit_8 (by decide) ?_
  refine am_callV (cvj := am_ci) (mtj := mX10_of) (dj := 0) (nj := 2) (rcj := 0) (rsj := 0) (rc' := 0) (rs' := 0) (ci := 10) (st' := fun a9 => (am_I a9 :: [am_I r1])) ⟨_, rfl, rfl⟩ [am_I l2, am_I (2 : Int32)] [am_I r1] dX10_doesFit_9 okX10_of lk_RX10_99 (fun zA zH zE => txX10_of l0 l2 (2 : Int32) h2 zA zH zE) rfl (fun _ => rfl) (by decide) rfl (Nat.le_of_ble_eq_true rfl) (by decide) (by decide) (fun r3 h4 => ?_)
  refine am_isub dX10_doesFit_12 ?_
  refine am_istore_n (LL := fun y9 => [some (am_R l0), some (am_I l1), some (am_I l2), some (am_I y9), none, none, none]) dX10_doesFit_13 (by decide) (fun _ => rfl) (fun x5 => ?_)
  refine am_iload_n dX10_doesFit_14 rfl ?_
  refine am_if_ne (tgt := 22) dX10_doesFit_15 (by decide) (fun c6 => ?_) (fun c6 => ?_)
  · refine am_iconst (v := 0) dX10_doesFit_22 (by decide) ?_
    exact am_weak (sxX10_doesFit_b23 l0 l1 l2 x5 (0 : Int32) h4) ⟨rfl, ⟨rfl, ⟨rfl, ⟨rfl, trivial⟩⟩⟩⟩ (Nat.le_refl _) (Nat.le_refl _)
  refine am_iconst (v := 1) dX10_doesFit_18 (by decide) ?_
  refine am_goto (tgt := 23) dX10_doesFit_19 (by decide) ?_
  exact am_weak (sxX10_doesFit_b23 l0 l1 l2 x5 (1 : Int32) h4) ⟨rfl, ⟨rfl, ⟨rfl, ⟨rfl, trivial⟩⟩⟩⟩ (Nat.le_refl _) (Nat.le_refl _)
theorem txX10_doesFit {xs : List Int32} (l0 : Option Nat) (l1 : Int32) (l2 : Int32) (h : am_H) (a : Int32) (h2 : am_H) (e : fxX10_doesFit l0 l1 l2 h = some (a, h2)) : am_Ct xs mX10_doesFit 1 0 0 [am_R l0, am_I l1, am_I l2] h (fun v h3 => v = am_ci a ∧ h3 = h2) := am_meth okX10_doesFit (Nat.le_of_ble_eq_true rfl) rfl (sxX10_doesFit l0 l1 l2 h) e
theorem dX10_fits_0 : am_at cX10_fits 0 (.aload_n 0) 1 1 := by decide +kernel
theorem dX10_fits_1 : am_at cX10_fits 1 (.iload_n 1) 1 2 := by decide +kernel
theorem dX10_fits_2 : am_at cX10_fits 2 (.invokevirtual 103) 3 5 := by decide +kernel
theorem dX10_fits_5 : am_at cX10_fits 5 (.ifCond .eq 16) 3 8 := by decide +kernel
theorem dX10_fits_8 : am_at cX10_fits 8 (.aload_n 0) 1 9 := by decide +kernel
theorem dX10_fits_9 : am_at cX10_fits 9 (.iload_n 2) 1 10 := by decide +kernel
theorem dX10_fits_10 : am_at cX10_fits 10 (.invokevirtual 103) 3 13 := by decide +kernel
theorem dX10_fits_13 : am_at cX10_fits 13 (.ifCond .eq 8) 3 16 := by decide +kernel
theorem dX10_fits_16 : am_at cX10_fits 16 (.iload_n 1) 1 17 := by decide +kernel
theorem dX10_fits_17 : am_at cX10_fits 17 (.iload_n 2) 1 18 := by decide +kernel
theorem dX10_fits_18 : am_at cX10_fits 18 (.if_icmp .ne 6) 3 21 := by decide +kernel
theorem dX10_fits_21 : am_at cX10_fits 21 (.ldc 93) 2 23 := by decide +kernel
theorem dX10_fits_23 : am_at cX10_fits 23 (.ireturn) 1 24 := by decide +kernel
theorem dX10_fits_24 : am_at cX10_fits 24 (.aload_n 0) 1 25 := by decide +kernel
theorem dX10_fits_25 : am_at cX10_fits 25 (.iload_n 1) 1 26 := by decide +kernel
theorem dX10_fits_26 : am_at cX10_fits 26 (.iload_n 2) 1 27 := by decide +kernel
theorem dX10_fits_27 : am_at cX10_fits 27 (.invokevirtual 122) 3 30 := by decide +kernel
theorem dX10_fits_30 : am_at cX10_fits 30 (.ifCond .eq 7) 3 33 := by decide +kernel
theorem dX10_fits_33 : am_at cX10_fits 33 (.iconst 1) 1 34 := by decide +kernel
theorem dX10_fits_34 : am_at cX10_fits 34 (.goto 4) 3 37 := by decide +kernel
theorem dX10_fits_37 : am_at cX10_fits 37 (.iconst 0) 1 38 := by decide +kernel
theorem dX10_fits_38 : am_at cX10_fits 38 (.ireturn) 1 39 := by decide +kernel
def fxX10_fits (l0 : Option Nat) (l1 : Int32) (l2 : Int32) (h : am_H) : Option (Int32 × am_H) := am_gd (am_ob h l0 10) (am_bd (fxX10_isGlove l0 l1 h) (fun r1 h2 => if r1 = 0 then (some ((-1000000001 : Int32), h2)) else (am_gd (am_ob h2 l0 10) (am_bd (fxX10_isGlove l0 l2 h2) (fun r3 h4 => if r3 = 0 then (some ((-1000000001 : Int32), h4)) else (if l1 = l2 then (some ((-1000000001 : Int32), h4)) else (am_gd (am_ob h4 l0 10) (am_bd (fxX10_doesFit l0 l1 l2 h4) (fun r5 h6 => if r5 = 0 then (some ((0 : Int32), h6)) else (some ((1 : Int32), h6)))))))))))
set_option maxRecDepth 100000 in
theorem sxX10_fits {xs : List Int32} (l0 : Option Nat) (l1 : Int32) (l2 : Int32) (h : am_H) : am_Sm xs am_ci mX10_fits 2 0 0 0 [some (am_R l0), some (am_I l1), some (am_I l2)] [] h (fxX10_fits l0 l1 l2 h) := by
  unfold fxX10_fits
  refine am_aload_n dX10_fits_0 rfl ?_
  refine am_iload_n dX10_fits_1 rfl ?_
  refine am_callV (cvj := am_ci) (mtj := mX10_isGlove) (dj := 1) (nj := 1) (rcj := 0) (rsj := 0) (rc' := 0) (rs' := 0) (ci := 10) (st' := fun a9 => (am_I a9 :: [])) ⟨_, rfl, rfl⟩ [am_I l1] [] dX10_fits_2 okX10_isGlove lk_RX10_103 (fun zA zH zE => txX10_isGlove l0 l1 h zA zH zE) rfl (fun _ => rfl) (by decide) rfl (Nat.le_of_ble_eq_true rfl) (by decide) (by decide) (fun r1 h2 => ?_)
  refine am_if_eq (tgt := 21) dX10_fits_5 (by decide) (fun c10 => ?_) (fun c10 => ?_)
  · refine am_ldc (v := (-1000000001)) dX10_fits_21 wd1060 ?_
    exact am_iret dX10_fits_23 rfl rfl
  refine am_aload_n dX10_fits_8 rfl ?_
  refine am_iload_n dX10_fits_9 rfl ?_
  refine am_callV (cvj := am_ci) (mtj := mX10_isGlove) (dj := 1) (nj := 1) (rcj := 0) (rsj := 0) (rc' := 0) (rs' := 0) (ci := 10) (st' := fun a9 => (am_I a9 :: [])) ⟨_, rfl, rfl⟩ [am_I l2] [] dX10_fits_10 okX10_isGlove lk_RX10_103 (fun zA zH zE => txX10_isGlove l0 l2 h2 zA zH zE) rfl (fun _ => rfl) (by decide) rfl (Nat.le_of_ble_eq_true rfl) (by decide) (by decide) (fun r3 h4 => ?_)
  refine am_if_eq (tgt := 21) dX10_fits_13 (by decide) (fun c9 => ?_) (fun c9 => ?_)
  · refine am_ldc (v := (-1000000001)) dX10_fits_21 wd1060 ?_
    exact am_iret dX10_fits_23 rfl rfl
  refine am_iload_n dX10_fits_16 rfl ?_
  refine am_iload_n dX10_fits_17 rfl ?_
  refine am_icmp_ne (tgt := 24) dX10_fits_18 (by decide) (fun c8 => ?_) (fun c8 => ?_)
  · refine am_aload_n dX10_fits_24 rfl ?_
    refine am_iload_n dX10_fits_25 rfl ?_
    refine am_iload_n dX10_fits_26 rfl ?_
    refine am_callV (cvj := am_ci) (mtj := mX10_doesFit) (dj := 1) (nj := 2) (rcj := 0) (rsj := 0) (rc' := 0) (rs' := 0) (ci := 10) (st' := fun a9 => (am_I a9 :: [])) ⟨_, rfl, rfl⟩ [am_I l1, am_I l2] [] dX10_fits_27 okX10_doesFit lk_RX10_122 (fun zA zH zE => txX10_doesFit l0 l1 l2 h4 zA zH zE) rfl (fun _ => rfl) (by decide) rfl (Nat.le_of_ble_eq_true rfl) (by decide) (by decide) (fun r5 h6 => ?_)
    refine am_if_eq (tgt := 37) dX10_fits_30 (by decide) (fun c7 => ?_) (fun c7 => ?_)
    · refine am_iconst (v := 0) dX10_fits_37 (by decide) ?_
      exact am_iret dX10_fits_38 rfl rfl
    refine am_iconst (v := 1) dX10_fits_33 (by decide) ?_
    refine am_goto (tgt := 38) dX10_fits_34 (by decide) ?_
    exact am_iret dX10_fits_38 rfl rfl
  refine am_ldc (v := (-1000000001)) dX10_fits_21 wd1060 ?_
  exact am_iret dX10_fits_23 rfl rfl
theorem txX10_fits {xs : List Int32} (l0 : Option Nat) (l1 : Int32) (l2 : Int32) (h : am_H) (a : Int32) (h2 : am_H) (e : fxX10_fits l0 l1 l2 h = some (a, h2)) : am_Ct xs mX10_fits 2 0 0 [am_R l0, am_I l1, am_I l2] h (fun v h3 => v = am_ci a ∧ h3 = h2) := am_meth okX10_fits (Nat.le_of_ble_eq_true rfl) rfl (sxX10_fits l0 l1 l2 h) e
theorem dX10_isPair_0 : am_at cX10_isPair 0 (.aload_n 0) 1 1 := by decide +kernel
theorem dX10_isPair_1 : am_at cX10_isPair 1 (.iload_n 1) 1 2 := by decide +kernel
theorem dX10_isPair_2 : am_at cX10_isPair 2 (.iconst 1) 1 3 := by decide +kernel
theorem dX10_isPair_3 : am_at cX10_isPair 3 (.invokevirtual 99) 3 6 := by decide +kernel
theorem dX10_isPair_6 : am_at cX10_isPair 6 (.aload_n 0) 1 7 := by decide +kernel
theorem dX10_isPair_7 : am_at cX10_isPair 7 (.iload_n 2) 1 8 := by decide +kernel
theorem dX10_isPair_8 : am_at cX10_isPair 8 (.iconst 1) 1 9 := by decide +kernel
theorem dX10_isPair_9 : am_at cX10_isPair 9 (.invokevirtual 99) 3 12 := by decide +kernel
theorem dX10_isPair_12 : am_at cX10_isPair 12 (.if_icmp .ne 23) 3 15 := by decide +kernel
theorem dX10_isPair_15 : am_at cX10_isPair 15 (.aload_n 0) 1 16 := by decide +kernel
theorem dX10_isPair_16 : am_at cX10_isPair 16 (.iload_n 1) 1 17 := by decide +kernel
theorem dX10_isPair_17 : am_at cX10_isPair 17 (.iconst 0) 1 18 := by decide +kernel
theorem dX10_isPair_18 : am_at cX10_isPair 18 (.invokevirtual 99) 3 21 := by decide +kernel
theorem dX10_isPair_21 : am_at cX10_isPair 21 (.iconst 4) 1 22 := by decide +kernel
theorem dX10_isPair_22 : am_at cX10_isPair 22 (.if_icmp .eq 13) 3 25 := by decide +kernel
theorem dX10_isPair_25 : am_at cX10_isPair 25 (.aload_n 0) 1 26 := by decide +kernel
theorem dX10_isPair_26 : am_at cX10_isPair 26 (.iload_n 2) 1 27 := by decide +kernel
theorem dX10_isPair_27 : am_at cX10_isPair 27 (.iconst 0) 1 28 := by decide +kernel
theorem dX10_isPair_28 : am_at cX10_isPair 28 (.invokevirtual 99) 3 31 := by decide +kernel
theorem dX10_isPair_31 : am_at cX10_isPair 31 (.iconst 4) 1 32 := by decide +kernel
theorem dX10_isPair_32 : am_at cX10_isPair 32 (.if_icmp .ne 7) 3 35 := by decide +kernel
theorem dX10_isPair_35 : am_at cX10_isPair 35 (.iconst 1) 1 36 := by decide +kernel
theorem dX10_isPair_36 : am_at cX10_isPair 36 (.goto 4) 3 39 := by decide +kernel
theorem dX10_isPair_39 : am_at cX10_isPair 39 (.iconst 0) 1 40 := by decide +kernel
theorem dX10_isPair_40 : am_at cX10_isPair 40 (.istore_n 3) 1 41 := by decide +kernel
theorem dX10_isPair_41 : am_at cX10_isPair 41 (.iload_n 1) 1 42 := by decide +kernel
theorem dX10_isPair_42 : am_at cX10_isPair 42 (.iload_n 2) 1 43 := by decide +kernel
theorem dX10_isPair_43 : am_at cX10_isPair 43 (.if_icmp .eq 47) 3 46 := by decide +kernel
theorem dX10_isPair_46 : am_at cX10_isPair 46 (.iload_n 3) 1 47 := by decide +kernel
theorem dX10_isPair_47 : am_at cX10_isPair 47 (.ifCond .eq 43) 3 50 := by decide +kernel
theorem dX10_isPair_50 : am_at cX10_isPair 50 (.aload_n 0) 1 51 := by decide +kernel
theorem dX10_isPair_51 : am_at cX10_isPair 51 (.iload_n 1) 1 52 := by decide +kernel
theorem dX10_isPair_52 : am_at cX10_isPair 52 (.iconst 5) 1 53 := by decide +kernel
theorem dX10_isPair_53 : am_at cX10_isPair 53 (.invokevirtual 99) 3 56 := by decide +kernel
theorem dX10_isPair_56 : am_at cX10_isPair 56 (.ifCond .ne 34) 3 59 := by decide +kernel
theorem dX10_isPair_59 : am_at cX10_isPair 59 (.aload_n 0) 1 60 := by decide +kernel
theorem dX10_isPair_60 : am_at cX10_isPair 60 (.iload_n 2) 1 61 := by decide +kernel
theorem dX10_isPair_61 : am_at cX10_isPair 61 (.iconst 5) 1 62 := by decide +kernel
theorem dX10_isPair_62 : am_at cX10_isPair 62 (.invokevirtual 99) 3 65 := by decide +kernel
theorem dX10_isPair_65 : am_at cX10_isPair 65 (.ifCond .ne 25) 3 68 := by decide +kernel
theorem dX10_isPair_68 : am_at cX10_isPair 68 (.aload_n 0) 1 69 := by decide +kernel
theorem dX10_isPair_69 : am_at cX10_isPair 69 (.iload_n 1) 1 70 := by decide +kernel
theorem dX10_isPair_70 : am_at cX10_isPair 70 (.iload_n 2) 1 71 := by decide +kernel
theorem dX10_isPair_71 : am_at cX10_isPair 71 (.invokevirtual 122) 3 74 := by decide +kernel
theorem dX10_isPair_74 : am_at cX10_isPair 74 (.ifCond .eq 16) 3 77 := by decide +kernel
theorem dX10_isPair_77 : am_at cX10_isPair 77 (.aload_n 0) 1 78 := by decide +kernel
theorem dX10_isPair_78 : am_at cX10_isPair 78 (.iload_n 2) 1 79 := by decide +kernel
theorem dX10_isPair_79 : am_at cX10_isPair 79 (.iload_n 1) 1 80 := by decide +kernel
theorem dX10_isPair_80 : am_at cX10_isPair 80 (.invokevirtual 122) 3 83 := by decide +kernel
theorem dX10_isPair_83 : am_at cX10_isPair 83 (.ifCond .eq 7) 3 86 := by decide +kernel
theorem dX10_isPair_86 : am_at cX10_isPair 86 (.iconst 1) 1 87 := by decide +kernel
theorem dX10_isPair_87 : am_at cX10_isPair 87 (.goto 4) 3 90 := by decide +kernel
theorem dX10_isPair_90 : am_at cX10_isPair 90 (.iconst 0) 1 91 := by decide +kernel
theorem dX10_isPair_91 : am_at cX10_isPair 91 (.ireturn) 1 92 := by decide +kernel
def fxX10_isPair_b40 (l0 : Option Nat) (l1 : Int32) (l2 : Int32) (s0 : Int32) (h : am_H) : Option (Int32 × am_H) := am_lt s0 (fun x12 => if l1 = l2 then (am_gd (am_bz (0 : Int32)) (some ((0 : Int32), h))) else (if x12 = 0 then (am_gd (am_bz (0 : Int32)) (some ((0 : Int32), h))) else (am_gd (am_ob h l0 10) (am_bd (fxX10_of l0 l1 (5 : Int32) h) (fun r13 h14 => if r13 = 0 then (am_gd (am_ob h14 l0 10) (am_bd (fxX10_of l0 l2 (5 : Int32) h14) (fun r15 h16 => if r15 = 0 then (am_gd (am_ob h16 l0 10) (am_bd (fxX10_doesFit l0 l1 l2 h16) (fun r17 h18 => if r17 = 0 then (am_gd (am_bz (0 : Int32)) (some ((0 : Int32), h18))) else (am_gd (am_ob h18 l0 10) (am_bd (fxX10_doesFit l0 l2 l1 h18) (fun r19 h20 => if r19 = 0 then (am_gd (am_bz (0 : Int32)) (some ((0 : Int32), h20))) else (am_gd (am_bz (1 : Int32)) (some ((1 : Int32), h20))))))))) else (am_gd (am_bz (0 : Int32)) (some ((0 : Int32), h16)))))) else (am_gd (am_bz (0 : Int32)) (some ((0 : Int32), h14))))))))
set_option maxRecDepth 100000 in
theorem sxX10_isPair_b40 {xs : List Int32} (l0 : Option Nat) (l1 : Int32) (l2 : Int32) (s0 : Int32) (h : am_H) : am_Sm xs am_ci mX10_isPair 2 0 0 40 [some (am_R l0), some (am_I l1), some (am_I l2), none] [am_I s0] h (fxX10_isPair_b40 l0 l1 l2 s0 h) := by
  unfold fxX10_isPair_b40
  refine am_istore_n (LL := fun y9 => [some (am_R l0), some (am_I l1), some (am_I l2), some (am_I y9)]) dX10_isPair_40 (by decide) (fun _ => rfl) (fun x12 => ?_)
  refine am_iload_n dX10_isPair_41 rfl ?_
  refine am_iload_n dX10_isPair_42 rfl ?_
  refine am_icmp_eq (tgt := 90) dX10_isPair_43 (by decide) (fun c26 => ?_) (fun c26 => ?_)
  · refine am_iconst (v := 0) dX10_isPair_90 (by decide) ?_
    exact am_zret dX10_isPair_91 rfl rfl
  refine am_iload_n dX10_isPair_46 rfl ?_
  refine am_if_eq (tgt := 90) dX10_isPair_47 (by decide) (fun c25 => ?_) (fun c25 => ?_)
  · refine am_iconst (v := 0) dX10_isPair_90 (by decide) ?_
    exact am_zret dX10_isPair_91 rfl rfl
  refine am_aload_n dX10_isPair_50 rfl ?_
  refine am_iload_n dX10_isPair_51 rfl ?_
  refine am_iconst (v := 5) dX10_isPair_52 (by decide) ?_
  refine am_callV (cvj := am_ci) (mtj := mX10_of) (dj := 0) (nj := 2) (rcj := 0) (rsj := 0) (rc' := 0) (rs' := 0) (ci := 10) (st' := fun a9 => (am_I a9 :: [])) ⟨_, rfl, rfl⟩ [am_I l1, am_I (5 : Int32)] [] dX10_isPair_53 okX10_of lk_RX10_99 (fun zA zH zE => txX10_of l0 l1 (5 : Int32) h zA zH zE) rfl (fun _ => rfl) (by decide) rfl (Nat.le_of_ble_eq_true rfl) (by decide) (by decide) (fun r13 h14 => ?_)
  refine am_if_ne (tgt := 90) dX10_isPair_56 (by decide) (fun c24 => ?_) (fun c24 => ?_)
  · refine am_iconst (v := 0) dX10_isPair_90 (by decide) ?_
    exact am_zret dX10_isPair_91 rfl rfl
  refine am_aload_n dX10_isPair_59 rfl ?_
  refine am_iload_n dX10_isPair_60 rfl ?_
  refine am_iconst (v := 5) dX10_isPair_61 (by decide) ?_
  refine am_callV (cvj := am_ci) (mtj := mX10_of) (dj := 0) (nj := 2) (rcj := 0) (rsj := 0) (rc' := 0) (rs' := 0) (ci := 10) (st' := fun a9 => (am_I a9 :: [])) ⟨_, rfl, rfl⟩ [am_I l2, am_I (5 : Int32)] [] dX10_isPair_62 okX10_of lk_RX10_99 (fun zA zH zE => txX10_of l0 l2 (5 : Int32) h14 zA zH zE) rfl (fun _ => rfl) (by decide) rfl (Nat.le_of_ble_eq_true rfl) (by decide) (by decide) (fun r15 h16 => ?_)
  refine am_if_ne (tgt := 90) dX10_isPair_65 (by decide) (fun c23 => ?_) (fun c23 => ?_)
  · refine am_iconst (v := 0) dX10_isPair_90 (by decide) ?_
    exact am_zret dX10_isPair_91 rfl rfl
  refine am_aload_n dX10_isPair_68 rfl ?_
  refine am_iload_n dX10_isPair_69 rfl ?_
  refine am_iload_n dX10_isPair_70 rfl ?_
  refine am_callV (cvj := am_ci) (mtj := mX10_doesFit) (dj := 1) (nj := 2) (rcj := 0) (rsj := 0) (rc' := 0) (rs' := 0) (ci := 10) (st' := fun a9 => (am_I a9 :: [])) ⟨_, rfl, rfl⟩ [am_I l1, am_I l2] [] dX10_isPair_71 okX10_doesFit lk_RX10_122 (fun zA zH zE => txX10_doesFit l0 l1 l2 h16 zA zH zE) rfl (fun _ => rfl) (by decide) rfl (Nat.le_of_ble_eq_true rfl) (by decide) (by decide) (fun r17 h18 => ?_)
  refine am_if_eq (tgt := 90) dX10_isPair_74 (by decide) (fun c22 => ?_) (fun c22 => ?_)
  · refine am_iconst (v := 0) dX10_isPair_90 (by decide) ?_
    exact am_zret dX10_isPair_91 rfl rfl
  refine am_aload_n dX10_isPair_77 rfl ?_
  refine am_iload_n dX10_isPair_78 rfl ?_
  refine am_iload_n dX10_isPair_79 rfl ?_
  refine am_callV (cvj := am_ci) (mtj := mX10_doesFit) (dj := 1) (nj := 2) (rcj := 0) (rsj := 0) (rc' := 0) (rs' := 0) (ci := 10) (st' := fun a9 => (am_I a9 :: [])) ⟨_, rfl, rfl⟩ [am_I l2, am_I l1] [] dX10_isPair_80 okX10_doesFit lk_RX10_122 (fun zA zH zE => txX10_doesFit l0 l2 l1 h18 zA zH zE) rfl (fun _ => rfl) (by decide) rfl (Nat.le_of_ble_eq_true rfl) (by decide) (by decide) (fun r19 h20 => ?_)
  refine am_if_eq (tgt := 90) dX10_isPair_83 (by decide) (fun c21 => ?_) (fun c21 => ?_)
  · refine am_iconst (v := 0) dX10_isPair_90 (by decide) ?_
    exact am_zret dX10_isPair_91 rfl rfl
  refine am_iconst (v := 1) dX10_isPair_86 (by decide) ?_
  refine am_goto (tgt := 91) dX10_isPair_87 (by decide) ?_
  exact am_zret dX10_isPair_91 rfl rfl
def fxX10_isPair_b35 (l0 : Option Nat) (l1 : Int32) (l2 : Int32) (h : am_H) : Option (Int32 × am_H) := fxX10_isPair_b40 l0 l1 l2 (1 : Int32) h
set_option maxRecDepth 100000 in
theorem sxX10_isPair_b35 {xs : List Int32} (l0 : Option Nat) (l1 : Int32) (l2 : Int32) (h : am_H) : am_Sm xs am_ci mX10_isPair 2 0 0 35 [some (am_R l0), some (am_I l1), some (am_I l2), none] [] h (fxX10_isPair_b35 l0 l1 l2 h) := by
  unfold fxX10_isPair_b35
  refine am_iconst (v := 1) dX10_isPair_35 (by decide) ?_
  refine am_goto (tgt := 40) dX10_isPair_36 (by decide) ?_
  exact am_weak (sxX10_isPair_b40 l0 l1 l2 (1 : Int32) h) ⟨rfl, ⟨rfl, ⟨rfl, trivial⟩⟩⟩ (Nat.le_refl _) (Nat.le_refl _)
def fxX10_isPair (l0 : Option Nat) (l1 : Int32) (l2 : Int32) (h : am_H) : Option (Int32 × am_H) := am_gd (am_ob h l0 10) (am_bd (fxX10_of l0 l1 (1 : Int32) h) (fun r1 h2 => am_gd (am_ob h2 l0 10) (am_bd (fxX10_of l0 l2 (1 : Int32) h2) (fun r3 h4 => if r1 = r3 then (am_gd (am_ob h4 l0 10) (am_bd (fxX10_of l0 l1 (0 : Int32) h4) (fun r5 h6 => if r5 = (4 : Int32) then (fxX10_isPair_b35 l0 l1 l2 h6) else (am_gd (am_ob h6 l0 10) (am_bd (fxX10_of l0 l2 (0 : Int32) h6) (fun r7 h8 => if r7 = (4 : Int32) then (fxX10_isPair_b35 l0 l1 l2 h8) else (fxX10_isPair_b40 l0 l1 l2 (0 : Int32) h8))))))) else (fxX10_isPair_b35 l0 l1 l2 h4)))))
set_option maxRecDepth 100000 in
theorem sxX10_isPair {xs : List Int32} (l0 : Option Nat) (l1 : Int32) (l2 : Int32) (h : am_H) : am_Sm xs am_ci mX10_isPair 2 0 0 0 [some (am_R l0), some (am_I l1), some (am_I l2), none] [] h (fxX10_isPair l0 l1 l2 h) := by
  unfold fxX10_isPair
  refine am_aload_n dX10_isPair_0 rfl ?_
  refine am_iload_n dX10_isPair_1 rfl ?_
  refine am_iconst (v := 1) dX10_isPair_2 (by decide) ?_
  refine am_callV (cvj := am_ci) (mtj := mX10_of) (dj := 0) (nj := 2) (rcj := 0) (rsj := 0) (rc' := 0) (rs' := 0) (ci := 10) (st' := fun a9 => (am_I a9 :: [])) ⟨_, rfl, rfl⟩ [am_I l1, am_I (1 : Int32)] [] dX10_isPair_3 okX10_of lk_RX10_99 (fun zA zH zE => txX10_of l0 l1 (1 : Int32) h zA zH zE) rfl (fun _ => rfl) (by decide) rfl (Nat.le_of_ble_eq_true rfl) (by decide) (by decide) (fun r1 h2 => ?_)
  refine am_aload_n dX10_isPair_6 rfl ?_
  refine am_iload_n dX10_isPair_7 rfl ?_
  refine am_iconst (v := 1) dX10_isPair_8 (by decide) ?_
  refine am_callV (cvj := am_ci) (mtj := mX10_of) (dj := 0) (nj := 2) (rcj := 0) (rsj := 0) (rc' := 0) (rs' := 0) (ci := 10) (st' := fun a9 => (am_I a9 :: [am_I r1])) ⟨_, rfl, rfl⟩ [am_I l2, am_I (1 : Int32)] [am_I r1] dX10_isPair_9 okX10_of lk_RX10_99 (fun zA zH zE => txX10_of l0 l2 (1 : Int32) h2 zA zH zE) rfl (fun _ => rfl) (by decide) rfl (Nat.le_of_ble_eq_true rfl) (by decide) (by decide) (fun r3 h4 => ?_)
  refine am_icmp_ne (tgt := 35) dX10_isPair_12 (by decide) (fun c11 => ?_) (fun c11 => ?_)
  · exact am_weak (sxX10_isPair_b35 l0 l1 l2 h4) ⟨rfl, ⟨rfl, ⟨rfl, trivial⟩⟩⟩ (Nat.le_refl _) (Nat.le_refl _)
  refine am_aload_n dX10_isPair_15 rfl ?_
  refine am_iload_n dX10_isPair_16 rfl ?_
  refine am_iconst (v := 0) dX10_isPair_17 (by decide) ?_
  refine am_callV (cvj := am_ci) (mtj := mX10_of) (dj := 0) (nj := 2) (rcj := 0) (rsj := 0) (rc' := 0) (rs' := 0) (ci := 10) (st' := fun a9 => (am_I a9 :: [])) ⟨_, rfl, rfl⟩ [am_I l1, am_I (0 : Int32)] [] dX10_isPair_18 okX10_of lk_RX10_99 (fun zA zH zE => txX10_of l0 l1 (0 : Int32) h4 zA zH zE) rfl (fun _ => rfl) (by decide) rfl (Nat.le_of_ble_eq_true rfl) (by decide) (by decide) (fun r5 h6 => ?_)
  refine am_iconst (v := 4) dX10_isPair_21 (by decide) ?_
  refine am_icmp_eq (tgt := 35) dX10_isPair_22 (by decide) (fun c10 => ?_) (fun c10 => ?_)
  · exact am_weak (sxX10_isPair_b35 l0 l1 l2 h6) ⟨rfl, ⟨rfl, ⟨rfl, trivial⟩⟩⟩ (Nat.le_refl _) (Nat.le_refl _)
  refine am_aload_n dX10_isPair_25 rfl ?_
  refine am_iload_n dX10_isPair_26 rfl ?_
  refine am_iconst (v := 0) dX10_isPair_27 (by decide) ?_
  refine am_callV (cvj := am_ci) (mtj := mX10_of) (dj := 0) (nj := 2) (rcj := 0) (rsj := 0) (rc' := 0) (rs' := 0) (ci := 10) (st' := fun a9 => (am_I a9 :: [])) ⟨_, rfl, rfl⟩ [am_I l2, am_I (0 : Int32)] [] dX10_isPair_28 okX10_of lk_RX10_99 (fun zA zH zE => txX10_of l0 l2 (0 : Int32) h6 zA zH zE) rfl (fun _ => rfl) (by decide) rfl (Nat.le_of_ble_eq_true rfl) (by decide) (by decide) (fun r7 h8 => ?_)
  refine am_iconst (v := 4) dX10_isPair_31 (by decide) ?_
  refine am_icmp_ne (tgt := 39) dX10_isPair_32 (by decide) (fun c9 => ?_) (fun c9 => ?_)
  · refine am_iconst (v := 0) dX10_isPair_39 (by decide) ?_
    exact am_weak (sxX10_isPair_b40 l0 l1 l2 (0 : Int32) h8) ⟨rfl, ⟨rfl, ⟨rfl, trivial⟩⟩⟩ (Nat.le_refl _) (Nat.le_refl _)
  exact am_weak (sxX10_isPair_b35 l0 l1 l2 h8) ⟨rfl, ⟨rfl, ⟨rfl, trivial⟩⟩⟩ (Nat.le_refl _) (Nat.le_refl _)
theorem txX10_isPair {xs : List Int32} (l0 : Option Nat) (l1 : Int32) (l2 : Int32) (h : am_H) (a : Int32) (h2 : am_H) (e : fxX10_isPair l0 l1 l2 h = some (a, h2)) : am_Ct xs mX10_isPair 2 0 0 [am_R l0, am_I l1, am_I l2] h (fun v h3 => v = am_ci a ∧ h3 = h2) := am_meth okX10_isPair (Nat.le_of_ble_eq_true rfl) rfl (sxX10_isPair l0 l1 l2 h) e
theorem dX10_counts_0 : am_at cX10_counts 0 (.aload_n 0) 1 1 := by decide +kernel
theorem dX10_counts_1 : am_at cX10_counts 1 (.getfield 9) 3 4 := by decide +kernel
theorem dX10_counts_4 : am_at cX10_counts 4 (.iconst 5) 1 5 := by decide +kernel
theorem dX10_counts_5 : am_at cX10_counts 5 (.iaload) 1 6 := by decide +kernel
theorem dX10_counts_6 : am_at cX10_counts 6 (.iconst 1) 1 7 := by decide +kernel
theorem dX10_counts_7 : am_at cX10_counts 7 (.isub) 1 8 := by decide +kernel
theorem dX10_counts_8 : am_at cX10_counts 8 (.istore_n 2) 1 9 := by decide +kernel
theorem dX10_counts_9 : am_at cX10_counts 9 (.iload_n 2) 1 10 := by decide +kernel
theorem dX10_counts_10 : am_at cX10_counts 10 (.ifCond .lt 30) 3 13 := by decide +kernel
theorem dX10_counts_13 : am_at cX10_counts 13 (.aload_n 0) 1 14 := by decide +kernel
theorem dX10_counts_14 : am_at cX10_counts 14 (.getfield 9) 3 17 := by decide +kernel
theorem dX10_counts_17 : am_at cX10_counts 17 (.bipush 76) 2 19 := by decide +kernel
theorem dX10_counts_19 : am_at cX10_counts 19 (.iconst 2) 1 20 := by decide +kernel
theorem dX10_counts_20 : am_at cX10_counts 20 (.iload_n 2) 1 21 := by decide +kernel
theorem dX10_counts_21 : am_at cX10_counts 21 (.imul) 1 22 := by decide +kernel
theorem dX10_counts_22 : am_at cX10_counts 22 (.iadd) 1 23 := by decide +kernel
theorem dX10_counts_23 : am_at cX10_counts 23 (.iaload) 1 24 := by decide +kernel
theorem dX10_counts_24 : am_at cX10_counts 24 (.sipush 1000) 3 27 := by decide +kernel
theorem dX10_counts_27 : am_at cX10_counts 27 (.idiv) 1 28 := by decide +kernel
theorem dX10_counts_28 : am_at cX10_counts 28 (.iload_n 1) 1 29 := by decide +kernel
theorem dX10_counts_29 : am_at cX10_counts 29 (.if_icmp .ne 5) 3 32 := by decide +kernel
theorem dX10_counts_32 : am_at cX10_counts 32 (.iload_n 2) 1 33 := by decide +kernel
theorem dX10_counts_33 : am_at cX10_counts 33 (.ireturn) 1 34 := by decide +kernel
theorem dX10_counts_34 : am_at cX10_counts 34 (.iinc 2 (-1)) 3 37 := by decide +kernel
theorem dX10_counts_37 : am_at cX10_counts 37 (.goto (-28)) 3 40 := by decide +kernel
theorem dX10_counts_40 : am_at cX10_counts 40 (.iconst (-1)) 1 41 := by decide +kernel
theorem dX10_counts_41 : am_at cX10_counts 41 (.ireturn) 1 42 := by decide +kernel
def fxX10_counts_b9 : Nat → Option Nat → Int32 → Int32 → am_H → Option (Int32 × am_H)
  | 0, _, _, _, _ => none
  | n + 1, l0, l1, l2, h => if l2 < 0 then (some ((-1 : Int32), h)) else (am_gd (am_ob h l0 10) (am_gd (am_ix h (am_gr h l0 0) 0 ((76 : Int32) + ((2 : Int32) * l2))) (am_gd (am_nz (1000 : Int32)) (if ((am_gi h (am_gr h l0 0) ((76 : Int32) + ((2 : Int32) * l2)).toNatClampNeg) / (1000 : Int32)) = l1 then (some (l2, h)) else (am_lt (l2 + (-1)) (fun x2 => fxX10_counts_b9 n l0 l1 x2 h))))))
set_option maxRecDepth 100000 in
theorem sxX10_counts_b9 {xs : List Int32} : ∀ (n : Nat) (l0 : Option Nat) (l1 : Int32) (l2 : Int32) (h : am_H), am_Sm xs am_ci mX10_counts 0 0 0 9 [some (am_R l0), some (am_I l1), some (am_I l2)] [] h (fxX10_counts_b9 n l0 l1 l2 h) := by
  intro n
  induction n with
  | zero => intros; exact am_none
  | succ n ih =>
    intro l0 l1 l2 h
    rw [fxX10_counts_b9]
    refine am_iload_n dX10_counts_9 rfl ?_
    refine am_if_lt (tgt := 40) dX10_counts_10 (by decide) (fun c4 => ?_) (fun c4 => ?_)
    · refine am_iconst (v := (-1)) dX10_counts_40 (by decide) ?_
      exact am_iret dX10_counts_41 rfl rfl
    refine am_aload_n dX10_counts_13 rfl ?_
    refine am_getR dX10_counts_14 fk_RX10_9 rfl ?_
    refine am_bipush (v := 76) dX10_counts_17 (by decide) ?_
    refine am_iconst (v := 2) dX10_counts_19 (by decide) ?_
    refine am_iload_n dX10_counts_20 rfl ?_
    refine am_imul dX10_counts_21 ?_
    refine am_iadd dX10_counts_22 ?_
    refine am_iald dX10_counts_23 ?_
    refine am_sipush (v := 1000) dX10_counts_24 (by decide) ?_
    refine am_idiv dX10_counts_27 ?_
    refine am_iload_n dX10_counts_28 rfl ?_
    refine am_icmp_ne (tgt := 34) dX10_counts_29 (by decide) (fun c3 => ?_) (fun c3 => ?_)
    · refine am_iinc (v := (-1)) (LL := fun y9 => [some (am_R l0), some (am_I l1), some (am_I y9)]) dX10_counts_34 (by decide) rfl (by decide) (fun _ => rfl) (fun x2 => ?_)
      refine am_goto (tgt := 9) dX10_counts_37 (by decide) ?_
      exact am_weak (ih l0 l1 x2 h) ⟨rfl, ⟨rfl, ⟨rfl, trivial⟩⟩⟩ (Nat.le_refl _) (Nat.le_refl _)
    refine am_iload_n dX10_counts_32 rfl ?_
    exact am_iret dX10_counts_33 rfl rfl
def fxX10_counts (l0 : Option Nat) (l1 : Int32) (h : am_H) : Option (Int32 × am_H) := am_gd (am_ob h l0 10) (am_gd (am_ix h (am_gr h l0 0) 0 (5 : Int32)) (am_lt ((am_gi h (am_gr h l0 0) (5 : Int32).toNatClampNeg) - (1 : Int32)) (fun x1 => fxX10_counts_b9 am_F l0 l1 x1 h)))
set_option maxRecDepth 100000 in
theorem sxX10_counts {xs : List Int32} (l0 : Option Nat) (l1 : Int32) (h : am_H) : am_Sm xs am_ci mX10_counts 0 0 0 0 [some (am_R l0), some (am_I l1), none] [] h (fxX10_counts l0 l1 h) := by
  unfold fxX10_counts
  refine am_aload_n dX10_counts_0 rfl ?_
  refine am_getR dX10_counts_1 fk_RX10_9 rfl ?_
  refine am_iconst (v := 5) dX10_counts_4 (by decide) ?_
  refine am_iald dX10_counts_5 ?_
  refine am_iconst (v := 1) dX10_counts_6 (by decide) ?_
  refine am_isub dX10_counts_7 ?_
  refine am_istore_n (LL := fun y9 => [some (am_R l0), some (am_I l1), some (am_I y9)]) dX10_counts_8 (by decide) (fun _ => rfl) (fun x1 => ?_)
  exact am_weak (sxX10_counts_b9 am_F l0 l1 x1 h) ⟨rfl, ⟨rfl, ⟨rfl, trivial⟩⟩⟩ (Nat.le_refl _) (Nat.le_refl _)
theorem txX10_counts {xs : List Int32} (l0 : Option Nat) (l1 : Int32) (h : am_H) (a : Int32) (h2 : am_H) (e : fxX10_counts l0 l1 h = some (a, h2)) : am_Ct xs mX10_counts 0 0 0 [am_R l0, am_I l1] h (fun v h3 => v = am_ci a ∧ h3 = h2) := am_meth okX10_counts (Nat.le_of_ble_eq_true rfl) rfl (sxX10_counts l0 l1 h) e
theorem dX10_two_0 : am_at cX10_two 0 (.iload_n 0) 1 1 := by decide +kernel
theorem dX10_two_1 : am_at cX10_two 1 (.tableswitch 120 (-8) (-1) #[116, 112, 108, 97, 86, 75, 61, 47]) 47 48 := by decide +kernel
theorem dX10_two_48 : am_at cX10_two 48 (.iload_n 1) 1 49 := by decide +kernel
theorem dX10_two_49 : am_at cX10_two 49 (.ifCond .ne 7) 3 52 := by decide +kernel
theorem dX10_two_52 : am_at cX10_two 52 (.iload_n 2) 1 53 := by decide +kernel
theorem dX10_two_53 : am_at cX10_two 53 (.ifCond .eq 7) 3 56 := by decide +kernel
theorem dX10_two_56 : am_at cX10_two 56 (.iconst 1) 1 57 := by decide +kernel
theorem dX10_two_57 : am_at cX10_two 57 (.goto 4) 3 60 := by decide +kernel
theorem dX10_two_60 : am_at cX10_two 60 (.iconst 0) 1 61 := by decide +kernel
theorem dX10_two_61 : am_at cX10_two 61 (.ireturn) 1 62 := by decide +kernel
theorem dX10_two_62 : am_at cX10_two 62 (.iload_n 1) 1 63 := by decide +kernel
theorem dX10_two_63 : am_at cX10_two 63 (.ifCond .eq 11) 3 66 := by decide +kernel
theorem dX10_two_66 : am_at cX10_two 66 (.iload_n 2) 1 67 := by decide +kernel
theorem dX10_two_67 : am_at cX10_two 67 (.ifCond .eq 7) 3 70 := by decide +kernel
theorem dX10_two_70 : am_at cX10_two 70 (.iconst 1) 1 71 := by decide +kernel
theorem dX10_two_71 : am_at cX10_two 71 (.goto 4) 3 74 := by decide +kernel
theorem dX10_two_74 : am_at cX10_two 74 (.iconst 0) 1 75 := by decide +kernel
theorem dX10_two_75 : am_at cX10_two 75 (.ireturn) 1 76 := by decide +kernel
theorem dX10_two_76 : am_at cX10_two 76 (.iload_n 1) 1 77 := by decide +kernel
theorem dX10_two_77 : am_at cX10_two 77 (.iload_n 2) 1 78 := by decide +kernel
theorem dX10_two_78 : am_at cX10_two 78 (.if_icmp .ge 7) 3 81 := by decide +kernel
theorem dX10_two_81 : am_at cX10_two 81 (.iconst 1) 1 82 := by decide +kernel
theorem dX10_two_82 : am_at cX10_two 82 (.goto 4) 3 85 := by decide +kernel
theorem dX10_two_85 : am_at cX10_two 85 (.iconst 0) 1 86 := by decide +kernel
theorem dX10_two_86 : am_at cX10_two 86 (.ireturn) 1 87 := by decide +kernel
theorem dX10_two_87 : am_at cX10_two 87 (.iload_n 1) 1 88 := by decide +kernel
theorem dX10_two_88 : am_at cX10_two 88 (.iload_n 2) 1 89 := by decide +kernel
theorem dX10_two_89 : am_at cX10_two 89 (.if_icmp .ne 7) 3 92 := by decide +kernel
theorem dX10_two_92 : am_at cX10_two 92 (.iconst 1) 1 93 := by decide +kernel
theorem dX10_two_93 : am_at cX10_two 93 (.goto 4) 3 96 := by decide +kernel
theorem dX10_two_96 : am_at cX10_two 96 (.iconst 0) 1 97 := by decide +kernel
theorem dX10_two_97 : am_at cX10_two 97 (.ireturn) 1 98 := by decide +kernel
theorem dX10_two_98 : am_at cX10_two 98 (.iload_n 1) 1 99 := by decide +kernel
theorem dX10_two_99 : am_at cX10_two 99 (.iload_n 2) 1 100 := by decide +kernel
theorem dX10_two_100 : am_at cX10_two 100 (.if_icmp .le 7) 3 103 := by decide +kernel
theorem dX10_two_103 : am_at cX10_two 103 (.iconst 1) 1 104 := by decide +kernel
theorem dX10_two_104 : am_at cX10_two 104 (.goto 4) 3 107 := by decide +kernel
theorem dX10_two_107 : am_at cX10_two 107 (.iconst 0) 1 108 := by decide +kernel
theorem dX10_two_108 : am_at cX10_two 108 (.ireturn) 1 109 := by decide +kernel
theorem dX10_two_109 : am_at cX10_two 109 (.iload_n 1) 1 110 := by decide +kernel
theorem dX10_two_110 : am_at cX10_two 110 (.iload_n 2) 1 111 := by decide +kernel
theorem dX10_two_111 : am_at cX10_two 111 (.iadd) 1 112 := by decide +kernel
theorem dX10_two_112 : am_at cX10_two 112 (.ireturn) 1 113 := by decide +kernel
theorem dX10_two_113 : am_at cX10_two 113 (.iload_n 1) 1 114 := by decide +kernel
theorem dX10_two_114 : am_at cX10_two 114 (.iload_n 2) 1 115 := by decide +kernel
theorem dX10_two_115 : am_at cX10_two 115 (.isub) 1 116 := by decide +kernel
theorem dX10_two_116 : am_at cX10_two 116 (.ireturn) 1 117 := by decide +kernel
theorem dX10_two_117 : am_at cX10_two 117 (.iload_n 1) 1 118 := by decide +kernel
theorem dX10_two_118 : am_at cX10_two 118 (.iload_n 2) 1 119 := by decide +kernel
theorem dX10_two_119 : am_at cX10_two 119 (.imul) 1 120 := by decide +kernel
theorem dX10_two_120 : am_at cX10_two 120 (.ireturn) 1 121 := by decide +kernel
theorem dX10_two_121 : am_at cX10_two 121 (.iload_n 2) 1 122 := by decide +kernel
theorem dX10_two_122 : am_at cX10_two 122 (.ifCond .ne 7) 3 125 := by decide +kernel
theorem dX10_two_125 : am_at cX10_two 125 (.iconst 0) 1 126 := by decide +kernel
theorem dX10_two_126 : am_at cX10_two 126 (.goto 6) 3 129 := by decide +kernel
theorem dX10_two_129 : am_at cX10_two 129 (.iload_n 1) 1 130 := by decide +kernel
theorem dX10_two_130 : am_at cX10_two 130 (.iload_n 2) 1 131 := by decide +kernel
theorem dX10_two_131 : am_at cX10_two 131 (.idiv) 1 132 := by decide +kernel
theorem dX10_two_132 : am_at cX10_two 132 (.ireturn) 1 133 := by decide +kernel
def fxX10_two_b56 (h : am_H) : Option (Int32 × am_H) := some ((1 : Int32), h)
set_option maxRecDepth 100000 in
theorem sxX10_two_b56 {xs : List Int32} (h : am_H) : am_Sm xs am_ci mX10_two 0 0 0 56 [none, none, none] [] h (fxX10_two_b56 h) := by
  unfold fxX10_two_b56
  refine am_iconst (v := 1) dX10_two_56 (by decide) ?_
  refine am_goto (tgt := 61) dX10_two_57 (by decide) ?_
  exact am_iret dX10_two_61 rfl rfl
def fxX10_two (l0 : Int32) (l1 : Int32) (l2 : Int32) (h : am_H) : Option (Int32 × am_H) := if l0 = (-8) then (some ((l1 * l2), h)) else (if l0 = (-7) then (some ((l1 - l2), h)) else (if l0 = (-6) then (some ((l1 + l2), h)) else (if l0 = (-5) then (if l1 ≤ l2 then (some ((0 : Int32), h)) else (some ((1 : Int32), h))) else (if l0 = (-4) then (if l1 = l2 then (some ((1 : Int32), h)) else (some ((0 : Int32), h))) else (if l0 = (-3) then (if l2 ≤ l1 then (some ((0 : Int32), h)) else (some ((1 : Int32), h))) else (if l0 = (-2) then (if l1 = 0 then (some ((0 : Int32), h)) else (if l2 = 0 then (some ((0 : Int32), h)) else (some ((1 : Int32), h)))) else (if l0 = (-1) then (if l1 = 0 then (if l2 = 0 then (some ((0 : Int32), h)) else (fxX10_two_b56 h)) else (fxX10_two_b56 h)) else (if l2 = 0 then (some ((0 : Int32), h)) else (am_gd (am_nz l2) (some ((l1 / l2), h)))))))))))
set_option maxRecDepth 100000 in
theorem sxX10_two {xs : List Int32} (l0 : Int32) (l1 : Int32) (l2 : Int32) (h : am_H) : am_Sm xs am_ci mX10_two 0 0 0 0 [some (am_I l0), some (am_I l1), some (am_I l2)] [] h (fxX10_two l0 l1 l2 h) := by
  unfold fxX10_two
  refine am_iload_n dX10_two_0 rfl ?_
  refine am_table (cs := [((-8), 117), ((-7), 113), ((-6), 109), ((-5), 98), ((-4), 87), ((-3), 76), ((-2), 62), ((-1), 48)]) (dt := 121) dX10_two_1 (by decide +kernel) ?_
  refine am_sw_cons (fun c1 => ?_) (fun c1 => ?_)
  · refine am_iload_n dX10_two_117 rfl ?_
    refine am_iload_n dX10_two_118 rfl ?_
    refine am_imul dX10_two_119 ?_
    exact am_iret dX10_two_120 rfl rfl
  refine am_sw_cons (fun c2 => ?_) (fun c2 => ?_)
  · refine am_iload_n dX10_two_113 rfl ?_
    refine am_iload_n dX10_two_114 rfl ?_
    refine am_isub dX10_two_115 ?_
    exact am_iret dX10_two_116 rfl rfl
  refine am_sw_cons (fun c3 => ?_) (fun c3 => ?_)
  · refine am_iload_n dX10_two_109 rfl ?_
    refine am_iload_n dX10_two_110 rfl ?_
    refine am_iadd dX10_two_111 ?_
    exact am_iret dX10_two_112 rfl rfl
  refine am_sw_cons (fun c5 => ?_) (fun c5 => ?_)
  · refine am_iload_n dX10_two_98 rfl ?_
    refine am_iload_n dX10_two_99 rfl ?_
    refine am_icmp_le (tgt := 107) dX10_two_100 (by decide) (fun c4 => ?_) (fun c4 => ?_)
    · refine am_iconst (v := 0) dX10_two_107 (by decide) ?_
      exact am_iret dX10_two_108 rfl rfl
    refine am_iconst (v := 1) dX10_two_103 (by decide) ?_
    refine am_goto (tgt := 108) dX10_two_104 (by decide) ?_
    exact am_iret dX10_two_108 rfl rfl
  refine am_sw_cons (fun c7 => ?_) (fun c7 => ?_)
  · refine am_iload_n dX10_two_87 rfl ?_
    refine am_iload_n dX10_two_88 rfl ?_
    refine am_icmp_ne (tgt := 96) dX10_two_89 (by decide) (fun c6 => ?_) (fun c6 => ?_)
    · refine am_iconst (v := 0) dX10_two_96 (by decide) ?_
      exact am_iret dX10_two_97 rfl rfl
    refine am_iconst (v := 1) dX10_two_92 (by decide) ?_
    refine am_goto (tgt := 97) dX10_two_93 (by decide) ?_
    exact am_iret dX10_two_97 rfl rfl
  refine am_sw_cons (fun c9 => ?_) (fun c9 => ?_)
  · refine am_iload_n dX10_two_76 rfl ?_
    refine am_iload_n dX10_two_77 rfl ?_
    refine am_icmp_ge (tgt := 85) dX10_two_78 (by decide) (fun c8 => ?_) (fun c8 => ?_)
    · refine am_iconst (v := 0) dX10_two_85 (by decide) ?_
      exact am_iret dX10_two_86 rfl rfl
    refine am_iconst (v := 1) dX10_two_81 (by decide) ?_
    refine am_goto (tgt := 86) dX10_two_82 (by decide) ?_
    exact am_iret dX10_two_86 rfl rfl
  refine am_sw_cons (fun c12 => ?_) (fun c12 => ?_)
  · refine am_iload_n dX10_two_62 rfl ?_
    refine am_if_eq (tgt := 74) dX10_two_63 (by decide) (fun c11 => ?_) (fun c11 => ?_)
    · refine am_iconst (v := 0) dX10_two_74 (by decide) ?_
      exact am_iret dX10_two_75 rfl rfl
    refine am_iload_n dX10_two_66 rfl ?_
    refine am_if_eq (tgt := 74) dX10_two_67 (by decide) (fun c10 => ?_) (fun c10 => ?_)
    · refine am_iconst (v := 0) dX10_two_74 (by decide) ?_
      exact am_iret dX10_two_75 rfl rfl
    refine am_iconst (v := 1) dX10_two_70 (by decide) ?_
    refine am_goto (tgt := 75) dX10_two_71 (by decide) ?_
    exact am_iret dX10_two_75 rfl rfl
  refine am_sw_cons (fun c15 => ?_) (fun c15 => ?_)
  · refine am_iload_n dX10_two_48 rfl ?_
    refine am_if_ne (tgt := 56) dX10_two_49 (by decide) (fun c14 => ?_) (fun c14 => ?_)
    · exact am_weak (sxX10_two_b56 h) trivial (Nat.le_refl _) (Nat.le_refl _)
    refine am_iload_n dX10_two_52 rfl ?_
    refine am_if_eq (tgt := 60) dX10_two_53 (by decide) (fun c13 => ?_) (fun c13 => ?_)
    · refine am_iconst (v := 0) dX10_two_60 (by decide) ?_
      exact am_iret dX10_two_61 rfl rfl
    exact am_weak (sxX10_two_b56 h) trivial (Nat.le_refl _) (Nat.le_refl _)
  refine am_sw_nil ?_
  refine am_iload_n dX10_two_121 rfl ?_
  refine am_if_ne (tgt := 129) dX10_two_122 (by decide) (fun c16 => ?_) (fun c16 => ?_)
  · refine am_iload_n dX10_two_129 rfl ?_
    refine am_iload_n dX10_two_130 rfl ?_
    refine am_idiv dX10_two_131 ?_
    exact am_iret dX10_two_132 rfl rfl
  refine am_iconst (v := 0) dX10_two_125 (by decide) ?_
  refine am_goto (tgt := 132) dX10_two_126 (by decide) ?_
  exact am_iret dX10_two_132 rfl rfl
theorem txX10_two {xs : List Int32} (l0 : Int32) (l1 : Int32) (l2 : Int32) (h : am_H) (a : Int32) (h2 : am_H) (e : fxX10_two l0 l1 l2 h = some (a, h2)) : am_Ct xs mX10_two 0 0 0 [am_I l0, am_I l1, am_I l2] h (fun v h3 => v = am_ci a ∧ h3 = h2) := am_meth okX10_two (Nat.le_of_ble_eq_true rfl) rfl (sxX10_two l0 l1 l2 h) e
theorem dX10_worksOut_0 : am_at cX10_worksOut 0 (.iconst 0) 1 1 := by decide +kernel
theorem dX10_worksOut_1 : am_at cX10_worksOut 1 (.istore_n 2) 1 2 := by decide +kernel
theorem dX10_worksOut_2 : am_at cX10_worksOut 2 (.aload_n 0) 1 3 := by decide +kernel
theorem dX10_worksOut_3 : am_at cX10_worksOut 3 (.getfield 9) 3 6 := by decide +kernel
theorem dX10_worksOut_6 : am_at cX10_worksOut 6 (.bipush 76) 2 8 := by decide +kernel
theorem dX10_worksOut_8 : am_at cX10_worksOut 8 (.iconst 2) 1 9 := by decide +kernel
theorem dX10_worksOut_9 : am_at cX10_worksOut 9 (.iload_n 1) 1 10 := by decide +kernel
theorem dX10_worksOut_10 : am_at cX10_worksOut 10 (.imul) 1 11 := by decide +kernel
theorem dX10_worksOut_11 : am_at cX10_worksOut 11 (.iadd) 1 12 := by decide +kernel
theorem dX10_worksOut_12 : am_at cX10_worksOut 12 (.iaload) 1 13 := by decide +kernel
theorem dX10_worksOut_13 : am_at cX10_worksOut 13 (.sipush 1000) 3 16 := by decide +kernel
theorem dX10_worksOut_16 : am_at cX10_worksOut 16 (.irem) 1 17 := by decide +kernel
theorem dX10_worksOut_17 : am_at cX10_worksOut 17 (.istore_n 3) 1 18 := by decide +kernel
theorem dX10_worksOut_18 : am_at cX10_worksOut 18 (.iconst 0) 1 19 := by decide +kernel
theorem dX10_worksOut_19 : am_at cX10_worksOut 19 (.istore 4) 2 21 := by decide +kernel
theorem dX10_worksOut_21 : am_at cX10_worksOut 21 (.iload 4) 2 23 := by decide +kernel
theorem dX10_worksOut_23 : am_at cX10_worksOut 23 (.iload_n 3) 1 24 := by decide +kernel
theorem dX10_worksOut_24 : am_at cX10_worksOut 24 (.if_icmp .ge 131) 3 27 := by decide +kernel
theorem dX10_worksOut_27 : am_at cX10_worksOut 27 (.aload_n 0) 1 28 := by decide +kernel
theorem dX10_worksOut_28 : am_at cX10_worksOut 28 (.getfield 9) 3 31 := by decide +kernel
theorem dX10_worksOut_31 : am_at cX10_worksOut 31 (.bipush 104) 2 33 := by decide +kernel
theorem dX10_worksOut_33 : am_at cX10_worksOut 33 (.bipush 96) 2 35 := by decide +kernel
theorem dX10_worksOut_35 : am_at cX10_worksOut 35 (.iload_n 1) 1 36 := by decide +kernel
theorem dX10_worksOut_36 : am_at cX10_worksOut 36 (.imul) 1 37 := by decide +kernel
theorem dX10_worksOut_37 : am_at cX10_worksOut 37 (.iadd) 1 38 := by decide +kernel
theorem dX10_worksOut_38 : am_at cX10_worksOut 38 (.iload 4) 2 40 := by decide +kernel
theorem dX10_worksOut_40 : am_at cX10_worksOut 40 (.iadd) 1 41 := by decide +kernel
theorem dX10_worksOut_41 : am_at cX10_worksOut 41 (.iaload) 1 42 := by decide +kernel
theorem dX10_worksOut_42 : am_at cX10_worksOut 42 (.istore 5) 2 44 := by decide +kernel
theorem dX10_worksOut_44 : am_at cX10_worksOut 44 (.iload 5) 2 46 := by decide +kernel
theorem dX10_worksOut_46 : am_at cX10_worksOut 46 (.ifCond .lt 39) 3 49 := by decide +kernel
theorem dX10_worksOut_49 : am_at cX10_worksOut 49 (.aload_n 0) 1 50 := by decide +kernel
theorem dX10_worksOut_50 : am_at cX10_worksOut 50 (.getfield 51) 3 53 := by decide +kernel
theorem dX10_worksOut_53 : am_at cX10_worksOut 53 (.iload_n 2) 1 54 := by decide +kernel
theorem dX10_worksOut_54 : am_at cX10_worksOut 54 (.iload 5) 2 56 := by decide +kernel
theorem dX10_worksOut_56 : am_at cX10_worksOut 56 (.sipush 10000) 3 59 := by decide +kernel
theorem dX10_worksOut_59 : am_at cX10_worksOut 59 (.if_icmp .ge 8) 3 62 := by decide +kernel
theorem dX10_worksOut_62 : am_at cX10_worksOut 62 (.iload 5) 2 64 := by decide +kernel
theorem dX10_worksOut_64 : am_at cX10_worksOut 64 (.goto 14) 3 67 := by decide +kernel
theorem dX10_worksOut_67 : am_at cX10_worksOut 67 (.aload_n 0) 1 68 := by decide +kernel
theorem dX10_worksOut_68 : am_at cX10_worksOut 68 (.getfield 54) 3 71 := by decide +kernel
theorem dX10_worksOut_71 : am_at cX10_worksOut 71 (.iload 5) 2 73 := by decide +kernel
theorem dX10_worksOut_73 : am_at cX10_worksOut 73 (.sipush 10000) 3 76 := by decide +kernel
theorem dX10_worksOut_76 : am_at cX10_worksOut 76 (.isub) 1 77 := by decide +kernel
theorem dX10_worksOut_77 : am_at cX10_worksOut 77 (.iaload) 1 78 := by decide +kernel
theorem dX10_worksOut_78 : am_at cX10_worksOut 78 (.iastore) 1 79 := by decide +kernel
theorem dX10_worksOut_79 : am_at cX10_worksOut 79 (.iinc 2 1) 3 82 := by decide +kernel
theorem dX10_worksOut_82 : am_at cX10_worksOut 82 (.goto 67) 3 85 := by decide +kernel
theorem dX10_worksOut_85 : am_at cX10_worksOut 85 (.iload 5) 2 87 := by decide +kernel
theorem dX10_worksOut_87 : am_at cX10_worksOut 87 (.bipush (-10)) 2 89 := by decide +kernel
theorem dX10_worksOut_89 : am_at cX10_worksOut 89 (.if_icmp .ne 30) 3 92 := by decide +kernel
theorem dX10_worksOut_92 : am_at cX10_worksOut 92 (.aload_n 0) 1 93 := by decide +kernel
theorem dX10_worksOut_93 : am_at cX10_worksOut 93 (.getfield 51) 3 96 := by decide +kernel
theorem dX10_worksOut_96 : am_at cX10_worksOut 96 (.iload_n 2) 1 97 := by decide +kernel
theorem dX10_worksOut_97 : am_at cX10_worksOut 97 (.iconst 1) 1 98 := by decide +kernel
theorem dX10_worksOut_98 : am_at cX10_worksOut 98 (.isub) 1 99 := by decide +kernel
theorem dX10_worksOut_99 : am_at cX10_worksOut 99 (.aload_n 0) 1 100 := by decide +kernel
theorem dX10_worksOut_100 : am_at cX10_worksOut 100 (.getfield 51) 3 103 := by decide +kernel
theorem dX10_worksOut_103 : am_at cX10_worksOut 103 (.iload_n 2) 1 104 := by decide +kernel
theorem dX10_worksOut_104 : am_at cX10_worksOut 104 (.iconst 1) 1 105 := by decide +kernel
theorem dX10_worksOut_105 : am_at cX10_worksOut 105 (.isub) 1 106 := by decide +kernel
theorem dX10_worksOut_106 : am_at cX10_worksOut 106 (.iaload) 1 107 := by decide +kernel
theorem dX10_worksOut_107 : am_at cX10_worksOut 107 (.ifCond .ne 7) 3 110 := by decide +kernel
theorem dX10_worksOut_110 : am_at cX10_worksOut 110 (.iconst 1) 1 111 := by decide +kernel
theorem dX10_worksOut_111 : am_at cX10_worksOut 111 (.goto 4) 3 114 := by decide +kernel
theorem dX10_worksOut_114 : am_at cX10_worksOut 114 (.iconst 0) 1 115 := by decide +kernel
theorem dX10_worksOut_115 : am_at cX10_worksOut 115 (.iastore) 1 116 := by decide +kernel
theorem dX10_worksOut_116 : am_at cX10_worksOut 116 (.goto 33) 3 119 := by decide +kernel
theorem dX10_worksOut_119 : am_at cX10_worksOut 119 (.iinc 2 (-1)) 3 122 := by decide +kernel
theorem dX10_worksOut_122 : am_at cX10_worksOut 122 (.aload_n 0) 1 123 := by decide +kernel
theorem dX10_worksOut_123 : am_at cX10_worksOut 123 (.getfield 51) 3 126 := by decide +kernel
theorem dX10_worksOut_126 : am_at cX10_worksOut 126 (.iload_n 2) 1 127 := by decide +kernel
theorem dX10_worksOut_127 : am_at cX10_worksOut 127 (.iconst 1) 1 128 := by decide +kernel
theorem dX10_worksOut_128 : am_at cX10_worksOut 128 (.isub) 1 129 := by decide +kernel
theorem dX10_worksOut_129 : am_at cX10_worksOut 129 (.iload 5) 2 131 := by decide +kernel
theorem dX10_worksOut_131 : am_at cX10_worksOut 131 (.aload_n 0) 1 132 := by decide +kernel
theorem dX10_worksOut_132 : am_at cX10_worksOut 132 (.getfield 51) 3 135 := by decide +kernel
theorem dX10_worksOut_135 : am_at cX10_worksOut 135 (.iload_n 2) 1 136 := by decide +kernel
theorem dX10_worksOut_136 : am_at cX10_worksOut 136 (.iconst 1) 1 137 := by decide +kernel
theorem dX10_worksOut_137 : am_at cX10_worksOut 137 (.isub) 1 138 := by decide +kernel
theorem dX10_worksOut_138 : am_at cX10_worksOut 138 (.iaload) 1 139 := by decide +kernel
theorem dX10_worksOut_139 : am_at cX10_worksOut 139 (.aload_n 0) 1 140 := by decide +kernel
theorem dX10_worksOut_140 : am_at cX10_worksOut 140 (.getfield 51) 3 143 := by decide +kernel
theorem dX10_worksOut_143 : am_at cX10_worksOut 143 (.iload_n 2) 1 144 := by decide +kernel
theorem dX10_worksOut_144 : am_at cX10_worksOut 144 (.iaload) 1 145 := by decide +kernel
theorem dX10_worksOut_145 : am_at cX10_worksOut 145 (.invokestatic 279) 3 148 := by decide +kernel
theorem dX10_worksOut_148 : am_at cX10_worksOut 148 (.iastore) 1 149 := by decide +kernel
theorem dX10_worksOut_149 : am_at cX10_worksOut 149 (.iinc 4 1) 3 152 := by decide +kernel
theorem dX10_worksOut_152 : am_at cX10_worksOut 152 (.goto (-131)) 3 155 := by decide +kernel
theorem dX10_worksOut_155 : am_at cX10_worksOut 155 (.aload_n 0) 1 156 := by decide +kernel
theorem dX10_worksOut_156 : am_at cX10_worksOut 156 (.getfield 51) 3 159 := by decide +kernel
theorem dX10_worksOut_159 : am_at cX10_worksOut 159 (.iconst 0) 1 160 := by decide +kernel
theorem dX10_worksOut_160 : am_at cX10_worksOut 160 (.iaload) 1 161 := by decide +kernel
theorem dX10_worksOut_161 : am_at cX10_worksOut 161 (.ireturn) 1 162 := by decide +kernel
def fxX10_worksOut_b149 (k21 : Option Nat → Int32 → Int32 → Int32 → Int32 → am_H → Option (Int32 × am_H)) (l0 : Option Nat) (l1 : Int32) (l2 : Int32) (l3 : Int32) (l4 : Int32) (h : am_H) : Option (Int32 × am_H) := am_lt (l4 + 1) (fun x14 => k21 l0 l1 l2 l3 x14 h)
set_option maxRecDepth 100000 in
theorem sxX10_worksOut_b149 {xs : List Int32} (k21 : Option Nat → Int32 → Int32 → Int32 → Int32 → am_H → Option (Int32 × am_H)) (hk21 : ∀ (l0 : Option Nat) (l1 : Int32) (l2 : Int32) (l3 : Int32) (l4 : Int32) (h : am_H), am_Sm xs am_ci mX10_worksOut 1 0 0 21 [some (am_R l0), some (am_I l1), some (am_I l2), some (am_I l3), some (am_I l4), none] [] h (k21 l0 l1 l2 l3 l4 h)) (l0 : Option Nat) (l1 : Int32) (l2 : Int32) (l3 : Int32) (l4 : Int32) (h : am_H) : am_Sm xs am_ci mX10_worksOut 1 0 0 149 [some (am_R l0), some (am_I l1), some (am_I l2), some (am_I l3), some (am_I l4), none] [] h (fxX10_worksOut_b149 k21 l0 l1 l2 l3 l4 h) := by
  unfold fxX10_worksOut_b149
  refine am_iinc (v := 1) (LL := fun y9 => [some (am_R l0), some (am_I l1), some (am_I l2), some (am_I l3), some (am_I y9), none]) dX10_worksOut_149 (by decide) rfl (by decide) (fun _ => rfl) (fun x14 => ?_)
  refine am_goto (tgt := 21) dX10_worksOut_152 (by decide) ?_
  exact am_weak (hk21 l0 l1 l2 l3 x14 h) ⟨rfl, ⟨rfl, ⟨rfl, ⟨rfl, ⟨rfl, trivial⟩⟩⟩⟩⟩ (Nat.le_refl _) (Nat.le_refl _)
def fxX10_worksOut_b78 (k21 : Option Nat → Int32 → Int32 → Int32 → Int32 → am_H → Option (Int32 × am_H)) (l0 : Option Nat) (l1 : Int32) (l2 : Int32) (l3 : Int32) (l4 : Int32) (s0 : Int32) (s1 : Int32) (s2 : Option Nat) (h : am_H) : Option (Int32 × am_H) := am_gd (am_ix h s2 0 s1) (am_lt (am_si h s2 s1.toNatClampNeg s0) (fun h16 => am_lt (l2 + 1) (fun x17 => fxX10_worksOut_b149 k21 l0 l1 x17 l3 l4 h16)))
set_option maxRecDepth 100000 in
theorem sxX10_worksOut_b78 {xs : List Int32} (k21 : Option Nat → Int32 → Int32 → Int32 → Int32 → am_H → Option (Int32 × am_H)) (hk21 : ∀ (l0 : Option Nat) (l1 : Int32) (l2 : Int32) (l3 : Int32) (l4 : Int32) (h : am_H), am_Sm xs am_ci mX10_worksOut 1 0 0 21 [some (am_R l0), some (am_I l1), some (am_I l2), some (am_I l3), some (am_I l4), none] [] h (k21 l0 l1 l2 l3 l4 h)) (l0 : Option Nat) (l1 : Int32) (l2 : Int32) (l3 : Int32) (l4 : Int32) (s0 : Int32) (s1 : Int32) (s2 : Option Nat) (h : am_H) : am_Sm xs am_ci mX10_worksOut 1 0 0 78 [some (am_R l0), some (am_I l1), some (am_I l2), some (am_I l3), some (am_I l4), none] [am_I s0, am_I s1, am_R s2] h (fxX10_worksOut_b78 k21 l0 l1 l2 l3 l4 s0 s1 s2 h) := by
  unfold fxX10_worksOut_b78
  refine am_iast dX10_worksOut_78 (fun h16 => ?_)
  refine am_iinc (v := 1) (LL := fun y9 => [some (am_R l0), some (am_I l1), some (am_I y9), some (am_I l3), some (am_I l4), none]) dX10_worksOut_79 (by decide) rfl (by decide) (fun _ => rfl) (fun x17 => ?_)
  refine am_goto (tgt := 149) dX10_worksOut_82 (by decide) ?_
  exact am_weak (sxX10_worksOut_b149 k21 hk21 l0 l1 x17 l3 l4 h16) ⟨rfl, ⟨rfl, ⟨rfl, ⟨rfl, ⟨rfl, trivial⟩⟩⟩⟩⟩ (Nat.le_refl _) (Nat.le_refl _)
def fxX10_worksOut_b115 (k21 : Option Nat → Int32 → Int32 → Int32 → Int32 → am_H → Option (Int32 × am_H)) (l0 : Option Nat) (l1 : Int32) (l2 : Int32) (l3 : Int32) (l4 : Int32) (s0 : Int32) (s1 : Int32) (s2 : Option Nat) (h : am_H) : Option (Int32 × am_H) := am_gd (am_ix h s2 0 s1) (am_lt (am_si h s2 s1.toNatClampNeg s0) (fun h15 => fxX10_worksOut_b149 k21 l0 l1 l2 l3 l4 h15))
set_option maxRecDepth 100000 in
theorem sxX10_worksOut_b115 {xs : List Int32} (k21 : Option Nat → Int32 → Int32 → Int32 → Int32 → am_H → Option (Int32 × am_H)) (hk21 : ∀ (l0 : Option Nat) (l1 : Int32) (l2 : Int32) (l3 : Int32) (l4 : Int32) (h : am_H), am_Sm xs am_ci mX10_worksOut 1 0 0 21 [some (am_R l0), some (am_I l1), some (am_I l2), some (am_I l3), some (am_I l4), none] [] h (k21 l0 l1 l2 l3 l4 h)) (l0 : Option Nat) (l1 : Int32) (l2 : Int32) (l3 : Int32) (l4 : Int32) (s0 : Int32) (s1 : Int32) (s2 : Option Nat) (h : am_H) : am_Sm xs am_ci mX10_worksOut 1 0 0 115 [some (am_R l0), some (am_I l1), some (am_I l2), some (am_I l3), some (am_I l4), none] [am_I s0, am_I s1, am_R s2] h (fxX10_worksOut_b115 k21 l0 l1 l2 l3 l4 s0 s1 s2 h) := by
  unfold fxX10_worksOut_b115
  refine am_iast dX10_worksOut_115 (fun h15 => ?_)
  refine am_goto (tgt := 149) dX10_worksOut_116 (by decide) ?_
  exact am_weak (sxX10_worksOut_b149 k21 hk21 l0 l1 l2 l3 l4 h15) ⟨rfl, ⟨rfl, ⟨rfl, ⟨rfl, ⟨rfl, trivial⟩⟩⟩⟩⟩ (Nat.le_refl _) (Nat.le_refl _)
def fxX10_worksOut_b21 : Nat → Option Nat → Int32 → Int32 → Int32 → Int32 → am_H → Option (Int32 × am_H)
  | 0, _, _, _, _, _, _ => none
  | n + 1, l0, l1, l2, l3, l4, h => if l3 ≤ l4 then (am_gd (am_ob h l0 10) (am_gd (am_ix h (am_gr h l0 24) 0 (0 : Int32)) (some ((am_gi h (am_gr h l0 24) (0 : Int32).toNatClampNeg), h)))) else (am_gd (am_ob h l0 10) (am_gd (am_ix h (am_gr h l0 0) 0 (((104 : Int32) + ((96 : Int32) * l1)) + l4)) (am_lt (am_gi h (am_gr h l0 0) (((104 : Int32) + ((96 : Int32) * l1)) + l4).toNatClampNeg) (fun x4 => if x4 < 0 then (if x4 = (-10 : Int32) then (am_gd (am_ob h l0 10) (am_gd (am_ob h l0 10) (am_gd (am_ix h (am_gr h l0 24) 0 (l2 - (1 : Int32))) (if (am_gi h (am_gr h l0 24) (l2 - (1 : Int32)).toNatClampNeg) = 0 then (fxX10_worksOut_b115 (fxX10_worksOut_b21 n) l0 l1 l2 l3 l4 (1 : Int32) (l2 - (1 : Int32)) (am_gr h l0 24) h) else (fxX10_worksOut_b115 (fxX10_worksOut_b21 n) l0 l1 l2 l3 l4 (0 : Int32) (l2 - (1 : Int32)) (am_gr h l0 24) h))))) else (am_lt (l2 + (-1)) (fun x5 => am_gd (am_ob h l0 10) (am_gd (am_ob h l0 10) (am_gd (am_ix h (am_gr h l0 24) 0 (x5 - (1 : Int32))) (am_gd (am_ob h l0 10) (am_gd (am_ix h (am_gr h l0 24) 0 x5) (am_bd (fxX10_two x4 (am_gi h (am_gr h l0 24) (x5 - (1 : Int32)).toNatClampNeg) (am_gi h (am_gr h l0 24) x5.toNatClampNeg) h) (fun r6 h7 => am_gd (am_ix h7 (am_gr h l0 24) 0 (x5 - (1 : Int32))) (am_lt (am_si h7 (am_gr h l0 24) (x5 - (1 : Int32)).toNatClampNeg r6) (fun h8 => fxX10_worksOut_b149 (fxX10_worksOut_b21 n) l0 l1 x5 l3 l4 h8))))))))))) else (am_gd (am_ob h l0 10) (if (10000 : Int32) ≤ x4 then (am_gd (am_ob h l0 10) (am_gd (am_ix h (am_gr h l0 25) 0 (x4 - (10000 : Int32))) (fxX10_worksOut_b78 (fxX10_worksOut_b21 n) l0 l1 l2 l3 l4 (am_gi h (am_gr h l0 25) (x4 - (10000 : Int32)).toNatClampNeg) l2 (am_gr h l0 24) h))) else (fxX10_worksOut_b78 (fxX10_worksOut_b21 n) l0 l1 l2 l3 l4 x4 l2 (am_gr h l0 24) h)))))))
set_option maxRecDepth 100000 in
theorem sxX10_worksOut_b21 {xs : List Int32} : ∀ (n : Nat) (l0 : Option Nat) (l1 : Int32) (l2 : Int32) (l3 : Int32) (l4 : Int32) (h : am_H), am_Sm xs am_ci mX10_worksOut 1 0 0 21 [some (am_R l0), some (am_I l1), some (am_I l2), some (am_I l3), some (am_I l4), none] [] h (fxX10_worksOut_b21 n l0 l1 l2 l3 l4 h) := by
  intro n
  induction n with
  | zero => intros; exact am_none
  | succ n ih =>
    intro l0 l1 l2 l3 l4 h
    rw [fxX10_worksOut_b21]
    refine am_iload dX10_worksOut_21 rfl ?_
    refine am_iload_n dX10_worksOut_23 rfl ?_
    refine am_icmp_ge (tgt := 155) dX10_worksOut_24 (by decide) (fun c13 => ?_) (fun c13 => ?_)
    · refine am_aload_n dX10_worksOut_155 rfl ?_
      refine am_getR dX10_worksOut_156 fk_RX10_51 rfl ?_
      refine am_iconst (v := 0) dX10_worksOut_159 (by decide) ?_
      refine am_iald dX10_worksOut_160 ?_
      exact am_iret dX10_worksOut_161 rfl rfl
    refine am_aload_n dX10_worksOut_27 rfl ?_
    refine am_getR dX10_worksOut_28 fk_RX10_9 rfl ?_
    refine am_bipush (v := 104) dX10_worksOut_31 (by decide) ?_
    refine am_bipush (v := 96) dX10_worksOut_33 (by decide) ?_
    refine am_iload_n dX10_worksOut_35 rfl ?_
    refine am_imul dX10_worksOut_36 ?_
    refine am_iadd dX10_worksOut_37 ?_
    refine am_iload dX10_worksOut_38 rfl ?_
    refine am_iadd dX10_worksOut_40 ?_
    refine am_iald dX10_worksOut_41 ?_
    refine am_istore (LL := fun y9 => [some (am_R l0), some (am_I l1), some (am_I l2), some (am_I l3), some (am_I l4), some (am_I y9)]) dX10_worksOut_42 (by decide) (fun _ => rfl) (fun x4 => ?_)
    refine am_iload dX10_worksOut_44 rfl ?_
    refine am_if_lt (tgt := 85) dX10_worksOut_46 (by decide) (fun c12 => ?_) (fun c12 => ?_)
    · refine am_iload dX10_worksOut_85 rfl ?_
      refine am_bipush (v := (-10)) dX10_worksOut_87 (by decide) ?_
      refine am_icmp_ne (tgt := 119) dX10_worksOut_89 (by decide) (fun c10 => ?_) (fun c10 => ?_)
      · refine am_iinc (v := (-1)) (LL := fun y9 => [some (am_R l0), some (am_I l1), some (am_I y9), some (am_I l3), some (am_I l4), some (am_I x4)]) dX10_worksOut_119 (by decide) rfl (by decide) (fun _ => rfl) (fun x5 => ?_)
        refine am_aload_n dX10_worksOut_122 rfl ?_
        refine am_getR dX10_worksOut_123 fk_RX10_51 rfl ?_
        refine am_iload_n dX10_worksOut_126 rfl ?_
        refine am_iconst (v := 1) dX10_worksOut_127 (by decide) ?_
        refine am_isub dX10_worksOut_128 ?_
        refine am_iload dX10_worksOut_129 rfl ?_
        refine am_aload_n dX10_worksOut_131 rfl ?_
        refine am_getR dX10_worksOut_132 fk_RX10_51 rfl ?_
        refine am_iload_n dX10_worksOut_135 rfl ?_
        refine am_iconst (v := 1) dX10_worksOut_136 (by decide) ?_
        refine am_isub dX10_worksOut_137 ?_
        refine am_iald dX10_worksOut_138 ?_
        refine am_aload_n dX10_worksOut_139 rfl ?_
        refine am_getR dX10_worksOut_140 fk_RX10_51 rfl ?_
        refine am_iload_n dX10_worksOut_143 rfl ?_
        refine am_iald dX10_worksOut_144 ?_
        refine am_callS (cvj := am_ci) (mtj := mX10_two) (dj := 0) (nj := 3) (rcj := 0) (rsj := 0) (rc' := 0) (rs' := 0) (st' := fun a9 => (am_I a9 :: [am_I (x5 - (1 : Int32)), am_R (am_gr h l0 24)])) [am_I x4, am_I (am_gi h (am_gr h l0 24) (x5 - (1 : Int32)).toNatClampNeg), am_I (am_gi h (am_gr h l0 24) x5.toNatClampNeg)] [am_I (x5 - (1 : Int32)), am_R (am_gr h l0 24)] dX10_worksOut_145 okX10_two lk_RX10_279 (fun zA zH zE => txX10_two x4 (am_gi h (am_gr h l0 24) (x5 - (1 : Int32)).toNatClampNeg) (am_gi h (am_gr h l0 24) x5.toNatClampNeg) h zA zH zE) rfl (fun _ => rfl) (by decide) rfl (Nat.le_of_ble_eq_true rfl) (by decide) (by decide) (fun r6 h7 => ?_)
        refine am_iast dX10_worksOut_148 (fun h8 => ?_)
        exact am_weak (sxX10_worksOut_b149 (fxX10_worksOut_b21 n) ih l0 l1 x5 l3 l4 h8) ⟨rfl, ⟨rfl, ⟨rfl, ⟨rfl, ⟨rfl, trivial⟩⟩⟩⟩⟩ (Nat.le_refl _) (Nat.le_refl _)
      refine am_aload_n dX10_worksOut_92 rfl ?_
      refine am_getR dX10_worksOut_93 fk_RX10_51 rfl ?_
      refine am_iload_n dX10_worksOut_96 rfl ?_
      refine am_iconst (v := 1) dX10_worksOut_97 (by decide) ?_
      refine am_isub dX10_worksOut_98 ?_
      refine am_aload_n dX10_worksOut_99 rfl ?_
      refine am_getR dX10_worksOut_100 fk_RX10_51 rfl ?_
      refine am_iload_n dX10_worksOut_103 rfl ?_
      refine am_iconst (v := 1) dX10_worksOut_104 (by decide) ?_
      refine am_isub dX10_worksOut_105 ?_
      refine am_iald dX10_worksOut_106 ?_
      refine am_if_ne (tgt := 114) dX10_worksOut_107 (by decide) (fun c9 => ?_) (fun c9 => ?_)
      · refine am_iconst (v := 0) dX10_worksOut_114 (by decide) ?_
        exact am_weak (sxX10_worksOut_b115 (fxX10_worksOut_b21 n) ih l0 l1 l2 l3 l4 (0 : Int32) (l2 - (1 : Int32)) (am_gr h l0 24) h) ⟨rfl, ⟨rfl, ⟨rfl, ⟨rfl, ⟨rfl, trivial⟩⟩⟩⟩⟩ (Nat.le_refl _) (Nat.le_refl _)
      refine am_iconst (v := 1) dX10_worksOut_110 (by decide) ?_
      refine am_goto (tgt := 115) dX10_worksOut_111 (by decide) ?_
      exact am_weak (sxX10_worksOut_b115 (fxX10_worksOut_b21 n) ih l0 l1 l2 l3 l4 (1 : Int32) (l2 - (1 : Int32)) (am_gr h l0 24) h) ⟨rfl, ⟨rfl, ⟨rfl, ⟨rfl, ⟨rfl, trivial⟩⟩⟩⟩⟩ (Nat.le_refl _) (Nat.le_refl _)
    refine am_aload_n dX10_worksOut_49 rfl ?_
    refine am_getR dX10_worksOut_50 fk_RX10_51 rfl ?_
    refine am_iload_n dX10_worksOut_53 rfl ?_
    refine am_iload dX10_worksOut_54 rfl ?_
    refine am_sipush (v := 10000) dX10_worksOut_56 (by decide) ?_
    refine am_icmp_ge (tgt := 67) dX10_worksOut_59 (by decide) (fun c11 => ?_) (fun c11 => ?_)
    · refine am_aload_n dX10_worksOut_67 rfl ?_
      refine am_getR dX10_worksOut_68 fk_RX10_54 rfl ?_
      refine am_iload dX10_worksOut_71 rfl ?_
      refine am_sipush (v := 10000) dX10_worksOut_73 (by decide) ?_
      refine am_isub dX10_worksOut_76 ?_
      refine am_iald dX10_worksOut_77 ?_
      exact am_weak (sxX10_worksOut_b78 (fxX10_worksOut_b21 n) ih l0 l1 l2 l3 l4 (am_gi h (am_gr h l0 25) (x4 - (10000 : Int32)).toNatClampNeg) l2 (am_gr h l0 24) h) ⟨rfl, ⟨rfl, ⟨rfl, ⟨rfl, ⟨rfl, trivial⟩⟩⟩⟩⟩ (Nat.le_refl _) (Nat.le_refl _)
    refine am_iload dX10_worksOut_62 rfl ?_
    refine am_goto (tgt := 78) dX10_worksOut_64 (by decide) ?_
    exact am_weak (sxX10_worksOut_b78 (fxX10_worksOut_b21 n) ih l0 l1 l2 l3 l4 x4 l2 (am_gr h l0 24) h) ⟨rfl, ⟨rfl, ⟨rfl, ⟨rfl, ⟨rfl, trivial⟩⟩⟩⟩⟩ (Nat.le_refl _) (Nat.le_refl _)
def fxX10_worksOut (l0 : Option Nat) (l1 : Int32) (h : am_H) : Option (Int32 × am_H) := am_lt (0 : Int32) (fun x1 => am_gd (am_ob h l0 10) (am_gd (am_ix h (am_gr h l0 0) 0 ((76 : Int32) + ((2 : Int32) * l1))) (am_gd (am_nz (1000 : Int32)) (am_lt (am_rem (am_gi h (am_gr h l0 0) ((76 : Int32) + ((2 : Int32) * l1)).toNatClampNeg) (1000 : Int32)) (fun x2 => am_lt (0 : Int32) (fun x3 => fxX10_worksOut_b21 am_F l0 l1 x1 x2 x3 h))))))
set_option maxRecDepth 100000 in
theorem sxX10_worksOut {xs : List Int32} (l0 : Option Nat) (l1 : Int32) (h : am_H) : am_Sm xs am_ci mX10_worksOut 1 0 0 0 [some (am_R l0), some (am_I l1), none, none, none, none] [] h (fxX10_worksOut l0 l1 h) := by
  unfold fxX10_worksOut
  refine am_iconst (v := 0) dX10_worksOut_0 (by decide) ?_
  refine am_istore_n (LL := fun y9 => [some (am_R l0), some (am_I l1), some (am_I y9), none, none, none]) dX10_worksOut_1 (by decide) (fun _ => rfl) (fun x1 => ?_)
  refine am_aload_n dX10_worksOut_2 rfl ?_
  refine am_getR dX10_worksOut_3 fk_RX10_9 rfl ?_
  refine am_bipush (v := 76) dX10_worksOut_6 (by decide) ?_
  refine am_iconst (v := 2) dX10_worksOut_8 (by decide) ?_
  refine am_iload_n dX10_worksOut_9 rfl ?_
  refine am_imul dX10_worksOut_10 ?_
  refine am_iadd dX10_worksOut_11 ?_
  refine am_iald dX10_worksOut_12 ?_
  refine am_sipush (v := 1000) dX10_worksOut_13 (by decide) ?_
  refine am_irem dX10_worksOut_16 ?_
  refine am_istore_n (LL := fun y9 => [some (am_R l0), some (am_I l1), some (am_I x1), some (am_I y9), none, none]) dX10_worksOut_17 (by decide) (fun _ => rfl) (fun x2 => ?_)
  refine am_iconst (v := 0) dX10_worksOut_18 (by decide) ?_
  refine am_istore (LL := fun y9 => [some (am_R l0), some (am_I l1), some (am_I x1), some (am_I x2), some (am_I y9), none]) dX10_worksOut_19 (by decide) (fun _ => rfl) (fun x3 => ?_)
  exact am_weak (sxX10_worksOut_b21 am_F l0 l1 x1 x2 x3 h) ⟨rfl, ⟨rfl, ⟨rfl, ⟨rfl, ⟨rfl, trivial⟩⟩⟩⟩⟩ (Nat.le_refl _) (Nat.le_refl _)
theorem txX10_worksOut {xs : List Int32} (l0 : Option Nat) (l1 : Int32) (h : am_H) (a : Int32) (h2 : am_H) (e : fxX10_worksOut l0 l1 h = some (a, h2)) : am_Ct xs mX10_worksOut 1 0 0 [am_R l0, am_I l1] h (fun v h3 => v = am_ci a ∧ h3 = h2) := am_meth okX10_worksOut (Nat.le_of_ble_eq_true rfl) rfl (sxX10_worksOut l0 l1 h) e
theorem dX10_valueOf_0 : am_at cX10_valueOf 0 (.aload_n 0) 1 1 := by decide +kernel
theorem dX10_valueOf_1 : am_at cX10_valueOf 1 (.iload_n 1) 1 2 := by decide +kernel
theorem dX10_valueOf_2 : am_at cX10_valueOf 2 (.iconst 3) 1 3 := by decide +kernel
theorem dX10_valueOf_3 : am_at cX10_valueOf 3 (.invokevirtual 99) 3 6 := by decide +kernel
theorem dX10_valueOf_6 : am_at cX10_valueOf 6 (.istore_n 3) 1 7 := by decide +kernel
theorem dX10_valueOf_7 : am_at cX10_valueOf 7 (.aload_n 0) 1 8 := by decide +kernel
theorem dX10_valueOf_8 : am_at cX10_valueOf 8 (.iload_n 2) 1 9 := by decide +kernel
theorem dX10_valueOf_9 : am_at cX10_valueOf 9 (.iconst 3) 1 10 := by decide +kernel
theorem dX10_valueOf_10 : am_at cX10_valueOf 10 (.invokevirtual 99) 3 13 := by decide +kernel
theorem dX10_valueOf_13 : am_at cX10_valueOf 13 (.istore 4) 2 15 := by decide +kernel
theorem dX10_valueOf_15 : am_at cX10_valueOf 15 (.aload_n 0) 1 16 := by decide +kernel
theorem dX10_valueOf_16 : am_at cX10_valueOf 16 (.iload_n 1) 1 17 := by decide +kernel
theorem dX10_valueOf_17 : am_at cX10_valueOf 17 (.iconst 4) 1 18 := by decide +kernel
theorem dX10_valueOf_18 : am_at cX10_valueOf 18 (.invokevirtual 99) 3 21 := by decide +kernel
theorem dX10_valueOf_21 : am_at cX10_valueOf 21 (.aload_n 0) 1 22 := by decide +kernel
theorem dX10_valueOf_22 : am_at cX10_valueOf 22 (.iload_n 2) 1 23 := by decide +kernel
theorem dX10_valueOf_23 : am_at cX10_valueOf 23 (.iconst 4) 1 24 := by decide +kernel
theorem dX10_valueOf_24 : am_at cX10_valueOf 24 (.invokevirtual 99) 3 27 := by decide +kernel
theorem dX10_valueOf_27 : am_at cX10_valueOf 27 (.iadd) 1 28 := by decide +kernel
theorem dX10_valueOf_28 : am_at cX10_valueOf 28 (.istore 5) 2 30 := by decide +kernel
theorem dX10_valueOf_30 : am_at cX10_valueOf 30 (.aload_n 0) 1 31 := by decide +kernel
theorem dX10_valueOf_31 : am_at cX10_valueOf 31 (.iconst 0) 1 32 := by decide +kernel
theorem dX10_valueOf_32 : am_at cX10_valueOf 32 (.invokevirtual 125) 3 35 := by decide +kernel
theorem dX10_valueOf_35 : am_at cX10_valueOf 35 (.istore 6) 2 37 := by decide +kernel
theorem dX10_valueOf_37 : am_at cX10_valueOf 37 (.aload_n 0) 1 38 := by decide +kernel
theorem dX10_valueOf_38 : am_at cX10_valueOf 38 (.getfield 54) 3 41 := by decide +kernel
theorem dX10_valueOf_41 : am_at cX10_valueOf 41 (.iconst 0) 1 42 := by decide +kernel
theorem dX10_valueOf_42 : am_at cX10_valueOf 42 (.iload_n 3) 1 43 := by decide +kernel
theorem dX10_valueOf_43 : am_at cX10_valueOf 43 (.iload 4) 2 45 := by decide +kernel
theorem dX10_valueOf_45 : am_at cX10_valueOf 45 (.if_icmp .ge 7) 3 48 := by decide +kernel
theorem dX10_valueOf_48 : am_at cX10_valueOf 48 (.iload_n 3) 1 49 := by decide +kernel
theorem dX10_valueOf_49 : am_at cX10_valueOf 49 (.goto 5) 3 52 := by decide +kernel
theorem dX10_valueOf_52 : am_at cX10_valueOf 52 (.iload 4) 2 54 := by decide +kernel
theorem dX10_valueOf_54 : am_at cX10_valueOf 54 (.iastore) 1 55 := by decide +kernel
theorem dX10_valueOf_55 : am_at cX10_valueOf 55 (.aload_n 0) 1 56 := by decide +kernel
theorem dX10_valueOf_56 : am_at cX10_valueOf 56 (.getfield 54) 3 59 := by decide +kernel
theorem dX10_valueOf_59 : am_at cX10_valueOf 59 (.iconst 1) 1 60 := by decide +kernel
theorem dX10_valueOf_60 : am_at cX10_valueOf 60 (.iload_n 3) 1 61 := by decide +kernel
theorem dX10_valueOf_61 : am_at cX10_valueOf 61 (.iload 4) 2 63 := by decide +kernel
theorem dX10_valueOf_63 : am_at cX10_valueOf 63 (.if_icmp .ge 8) 3 66 := by decide +kernel
theorem dX10_valueOf_66 : am_at cX10_valueOf 66 (.iload 4) 2 68 := by decide +kernel
theorem dX10_valueOf_68 : am_at cX10_valueOf 68 (.goto 4) 3 71 := by decide +kernel
theorem dX10_valueOf_71 : am_at cX10_valueOf 71 (.iload_n 3) 1 72 := by decide +kernel
theorem dX10_valueOf_72 : am_at cX10_valueOf 72 (.iastore) 1 73 := by decide +kernel
theorem dX10_valueOf_73 : am_at cX10_valueOf 73 (.aload_n 0) 1 74 := by decide +kernel
theorem dX10_valueOf_74 : am_at cX10_valueOf 74 (.getfield 54) 3 77 := by decide +kernel
theorem dX10_valueOf_77 : am_at cX10_valueOf 77 (.iconst 2) 1 78 := by decide +kernel
theorem dX10_valueOf_78 : am_at cX10_valueOf 78 (.iload 5) 2 80 := by decide +kernel
theorem dX10_valueOf_80 : am_at cX10_valueOf 80 (.iastore) 1 81 := by decide +kernel
theorem dX10_valueOf_81 : am_at cX10_valueOf 81 (.iload 6) 2 83 := by decide +kernel
theorem dX10_valueOf_83 : am_at cX10_valueOf 83 (.ifCond .ge 23) 3 86 := by decide +kernel
theorem dX10_valueOf_86 : am_at cX10_valueOf 86 (.iload_n 3) 1 87 := by decide +kernel
theorem dX10_valueOf_87 : am_at cX10_valueOf 87 (.iload 4) 2 89 := by decide +kernel
theorem dX10_valueOf_89 : am_at cX10_valueOf 89 (.iadd) 1 90 := by decide +kernel
theorem dX10_valueOf_90 : am_at cX10_valueOf 90 (.iload 5) 2 92 := by decide +kernel
theorem dX10_valueOf_92 : am_at cX10_valueOf 92 (.bipush 10) 2 94 := by decide +kernel
theorem dX10_valueOf_94 : am_at cX10_valueOf 94 (.idiv) 1 95 := by decide +kernel
theorem dX10_valueOf_95 : am_at cX10_valueOf 95 (.isub) 1 96 := by decide +kernel
theorem dX10_valueOf_96 : am_at cX10_valueOf 96 (.iconst 0) 1 97 := by decide +kernel
theorem dX10_valueOf_97 : am_at cX10_valueOf 97 (.sipush 999) 3 100 := by decide +kernel
theorem dX10_valueOf_100 : am_at cX10_valueOf 100 (.invokestatic 128) 3 103 := by decide +kernel
theorem dX10_valueOf_103 : am_at cX10_valueOf 103 (.goto 16) 3 106 := by decide +kernel
theorem dX10_valueOf_106 : am_at cX10_valueOf 106 (.aload_n 0) 1 107 := by decide +kernel
theorem dX10_valueOf_107 : am_at cX10_valueOf 107 (.iload 6) 2 109 := by decide +kernel
theorem dX10_valueOf_109 : am_at cX10_valueOf 109 (.invokevirtual 132) 3 112 := by decide +kernel
theorem dX10_valueOf_112 : am_at cX10_valueOf 112 (.iconst 0) 1 113 := by decide +kernel
theorem dX10_valueOf_113 : am_at cX10_valueOf 113 (.sipush 999) 3 116 := by decide +kernel
theorem dX10_valueOf_116 : am_at cX10_valueOf 116 (.invokestatic 128) 3 119 := by decide +kernel
theorem dX10_valueOf_119 : am_at cX10_valueOf 119 (.ireturn) 1 120 := by decide +kernel
def fxX10_valueOf_b72 (l0 : Option Nat) (l3 : Int32) (l4 : Int32) (l5 : Int32) (l6 : Int32) (s0 : Int32) (s1 : Int32) (s2 : Option Nat) (h : am_H) : Option (Int32 × am_H) := am_gd (am_ix h s2 0 s1) (am_lt (am_si h s2 s1.toNatClampNeg s0) (fun h18 => am_gd (am_ob h18 l0 10) (am_gd (am_ix h18 (am_gr h18 l0 25) 0 (2 : Int32)) (am_lt (am_si h18 (am_gr h18 l0 25) (2 : Int32).toNatClampNeg l5) (fun h19 => if 0 ≤ l6 then (am_gd (am_ob h19 l0 10) (am_bd (fxX10_worksOut l0 l6 h19) (fun r20 h21 => am_bd (fxX10_within r20 (0 : Int32) (999 : Int32) h21) (fun r22 h23 => some (r22, h23))))) else (am_gd (am_nz (10 : Int32)) (am_bd (fxX10_within ((l3 + l4) - (l5 / (10 : Int32))) (0 : Int32) (999 : Int32) h19) (fun r24 h25 => some (r24, h25)))))))))
set_option maxRecDepth 100000 in
theorem sxX10_valueOf_b72 {xs : List Int32} (l0 : Option Nat) (l3 : Int32) (l4 : Int32) (l5 : Int32) (l6 : Int32) (s0 : Int32) (s1 : Int32) (s2 : Option Nat) (h : am_H) : am_Sm xs am_ci mX10_valueOf 2 0 0 72 [some (am_R l0), none, none, some (am_I l3), some (am_I l4), some (am_I l5), some (am_I l6)] [am_I s0, am_I s1, am_R s2] h (fxX10_valueOf_b72 l0 l3 l4 l5 l6 s0 s1 s2 h) := by
  unfold fxX10_valueOf_b72
  refine am_iast dX10_valueOf_72 (fun h18 => ?_)
  refine am_aload_n dX10_valueOf_73 rfl ?_
  refine am_getR dX10_valueOf_74 fk_RX10_54 rfl ?_
  refine am_iconst (v := 2) dX10_valueOf_77 (by decide) ?_
  refine am_iload dX10_valueOf_78 rfl ?_
  refine am_iast dX10_valueOf_80 (fun h19 => ?_)
  refine am_iload dX10_valueOf_81 rfl ?_
  refine am_if_ge (tgt := 106) dX10_valueOf_83 (by decide) (fun c26 => ?_) (fun c26 => ?_)
  · refine am_aload_n dX10_valueOf_106 rfl ?_
    refine am_iload dX10_valueOf_107 rfl ?_
    refine am_callV (cvj := am_ci) (mtj := mX10_worksOut) (dj := 1) (nj := 1) (rcj := 0) (rsj := 0) (rc' := 0) (rs' := 0) (ci := 10) (st' := fun a9 => (am_I a9 :: [])) ⟨_, rfl, rfl⟩ [am_I l6] [] dX10_valueOf_109 okX10_worksOut lk_RX10_132 (fun zA zH zE => txX10_worksOut l0 l6 h19 zA zH zE) rfl (fun _ => rfl) (by decide) rfl (Nat.le_of_ble_eq_true rfl) (by decide) (by decide) (fun r20 h21 => ?_)
    refine am_iconst (v := 0) dX10_valueOf_112 (by decide) ?_
    refine am_sipush (v := 999) dX10_valueOf_113 (by decide) ?_
    refine am_callS (cvj := am_ci) (mtj := mX10_within) (dj := 0) (nj := 3) (rcj := 0) (rsj := 0) (rc' := 0) (rs' := 0) (st' := fun a9 => (am_I a9 :: [])) [am_I r20, am_I (0 : Int32), am_I (999 : Int32)] [] dX10_valueOf_116 okX10_within lk_RX10_128 (fun zA zH zE => txX10_within r20 (0 : Int32) (999 : Int32) h21 zA zH zE) rfl (fun _ => rfl) (by decide) rfl (Nat.le_of_ble_eq_true rfl) (by decide) (by decide) (fun r22 h23 => ?_)
    exact am_iret dX10_valueOf_119 rfl rfl
  refine am_iload_n dX10_valueOf_86 rfl ?_
  refine am_iload dX10_valueOf_87 rfl ?_
  refine am_iadd dX10_valueOf_89 ?_
  refine am_iload dX10_valueOf_90 rfl ?_
  refine am_bipush (v := 10) dX10_valueOf_92 (by decide) ?_
  refine am_idiv dX10_valueOf_94 ?_
  refine am_isub dX10_valueOf_95 ?_
  refine am_iconst (v := 0) dX10_valueOf_96 (by decide) ?_
  refine am_sipush (v := 999) dX10_valueOf_97 (by decide) ?_
  refine am_callS (cvj := am_ci) (mtj := mX10_within) (dj := 0) (nj := 3) (rcj := 0) (rsj := 0) (rc' := 0) (rs' := 0) (st' := fun a9 => (am_I a9 :: [])) [am_I ((l3 + l4) - (l5 / (10 : Int32))), am_I (0 : Int32), am_I (999 : Int32)] [] dX10_valueOf_100 okX10_within lk_RX10_128 (fun zA zH zE => txX10_within ((l3 + l4) - (l5 / (10 : Int32))) (0 : Int32) (999 : Int32) h19 zA zH zE) rfl (fun _ => rfl) (by decide) rfl (Nat.le_of_ble_eq_true rfl) (by decide) (by decide) (fun r24 h25 => ?_)
  refine am_goto (tgt := 119) dX10_valueOf_103 (by decide) ?_
  exact am_iret dX10_valueOf_119 rfl rfl
def fxX10_valueOf_b54 (l0 : Option Nat) (l3 : Int32) (l4 : Int32) (l5 : Int32) (l6 : Int32) (s0 : Int32) (s1 : Int32) (s2 : Option Nat) (h : am_H) : Option (Int32 × am_H) := am_gd (am_ix h s2 0 s1) (am_lt (am_si h s2 s1.toNatClampNeg s0) (fun h16 => am_gd (am_ob h16 l0 10) (if l4 ≤ l3 then (fxX10_valueOf_b72 l0 l3 l4 l5 l6 l3 (1 : Int32) (am_gr h16 l0 25) h16) else (fxX10_valueOf_b72 l0 l3 l4 l5 l6 l4 (1 : Int32) (am_gr h16 l0 25) h16))))
set_option maxRecDepth 100000 in
theorem sxX10_valueOf_b54 {xs : List Int32} (l0 : Option Nat) (l3 : Int32) (l4 : Int32) (l5 : Int32) (l6 : Int32) (s0 : Int32) (s1 : Int32) (s2 : Option Nat) (h : am_H) : am_Sm xs am_ci mX10_valueOf 2 0 0 54 [some (am_R l0), none, none, some (am_I l3), some (am_I l4), some (am_I l5), some (am_I l6)] [am_I s0, am_I s1, am_R s2] h (fxX10_valueOf_b54 l0 l3 l4 l5 l6 s0 s1 s2 h) := by
  unfold fxX10_valueOf_b54
  refine am_iast dX10_valueOf_54 (fun h16 => ?_)
  refine am_aload_n dX10_valueOf_55 rfl ?_
  refine am_getR dX10_valueOf_56 fk_RX10_54 rfl ?_
  refine am_iconst (v := 1) dX10_valueOf_59 (by decide) ?_
  refine am_iload_n dX10_valueOf_60 rfl ?_
  refine am_iload dX10_valueOf_61 rfl ?_
  refine am_icmp_ge (tgt := 71) dX10_valueOf_63 (by decide) (fun c17 => ?_) (fun c17 => ?_)
  · refine am_iload_n dX10_valueOf_71 rfl ?_
    exact am_weak (sxX10_valueOf_b72 l0 l3 l4 l5 l6 l3 (1 : Int32) (am_gr h16 l0 25) h16) ⟨rfl, ⟨rfl, ⟨rfl, ⟨rfl, ⟨rfl, trivial⟩⟩⟩⟩⟩ (Nat.le_refl _) (Nat.le_refl _)
  refine am_iload dX10_valueOf_66 rfl ?_
  refine am_goto (tgt := 72) dX10_valueOf_68 (by decide) ?_
  exact am_weak (sxX10_valueOf_b72 l0 l3 l4 l5 l6 l4 (1 : Int32) (am_gr h16 l0 25) h16) ⟨rfl, ⟨rfl, ⟨rfl, ⟨rfl, ⟨rfl, trivial⟩⟩⟩⟩⟩ (Nat.le_refl _) (Nat.le_refl _)
def fxX10_valueOf (l0 : Option Nat) (l1 : Int32) (l2 : Int32) (h : am_H) : Option (Int32 × am_H) := am_gd (am_ob h l0 10) (am_bd (fxX10_of l0 l1 (3 : Int32) h) (fun r1 h2 => am_lt r1 (fun x3 => am_gd (am_ob h2 l0 10) (am_bd (fxX10_of l0 l2 (3 : Int32) h2) (fun r4 h5 => am_lt r4 (fun x6 => am_gd (am_ob h5 l0 10) (am_bd (fxX10_of l0 l1 (4 : Int32) h5) (fun r7 h8 => am_gd (am_ob h8 l0 10) (am_bd (fxX10_of l0 l2 (4 : Int32) h8) (fun r9 h10 => am_lt (r7 + r9) (fun x11 => am_gd (am_ob h10 l0 10) (am_bd (fxX10_counts l0 (0 : Int32) h10) (fun r12 h13 => am_lt r12 (fun x14 => am_gd (am_ob h13 l0 10) (if x6 ≤ x3 then (fxX10_valueOf_b54 l0 x3 x6 x11 x14 x6 (0 : Int32) (am_gr h13 l0 25) h13) else (fxX10_valueOf_b54 l0 x3 x6 x11 x14 x3 (0 : Int32) (am_gr h13 l0 25) h13))))))))))))))))
set_option maxRecDepth 100000 in
theorem sxX10_valueOf {xs : List Int32} (l0 : Option Nat) (l1 : Int32) (l2 : Int32) (h : am_H) : am_Sm xs am_ci mX10_valueOf 2 0 0 0 [some (am_R l0), some (am_I l1), some (am_I l2), none, none, none, none] [] h (fxX10_valueOf l0 l1 l2 h) := by
  unfold fxX10_valueOf
  refine am_aload_n dX10_valueOf_0 rfl ?_
  refine am_iload_n dX10_valueOf_1 rfl ?_
  refine am_iconst (v := 3) dX10_valueOf_2 (by decide) ?_
  refine am_callV (cvj := am_ci) (mtj := mX10_of) (dj := 0) (nj := 2) (rcj := 0) (rsj := 0) (rc' := 0) (rs' := 0) (ci := 10) (st' := fun a9 => (am_I a9 :: [])) ⟨_, rfl, rfl⟩ [am_I l1, am_I (3 : Int32)] [] dX10_valueOf_3 okX10_of lk_RX10_99 (fun zA zH zE => txX10_of l0 l1 (3 : Int32) h zA zH zE) rfl (fun _ => rfl) (by decide) rfl (Nat.le_of_ble_eq_true rfl) (by decide) (by decide) (fun r1 h2 => ?_)
  refine am_istore_n (LL := fun y9 => [some (am_R l0), some (am_I l1), some (am_I l2), some (am_I y9), none, none, none]) dX10_valueOf_6 (by decide) (fun _ => rfl) (fun x3 => ?_)
  refine am_aload_n dX10_valueOf_7 rfl ?_
  refine am_iload_n dX10_valueOf_8 rfl ?_
  refine am_iconst (v := 3) dX10_valueOf_9 (by decide) ?_
  refine am_callV (cvj := am_ci) (mtj := mX10_of) (dj := 0) (nj := 2) (rcj := 0) (rsj := 0) (rc' := 0) (rs' := 0) (ci := 10) (st' := fun a9 => (am_I a9 :: [])) ⟨_, rfl, rfl⟩ [am_I l2, am_I (3 : Int32)] [] dX10_valueOf_10 okX10_of lk_RX10_99 (fun zA zH zE => txX10_of l0 l2 (3 : Int32) h2 zA zH zE) rfl (fun _ => rfl) (by decide) rfl (Nat.le_of_ble_eq_true rfl) (by decide) (by decide) (fun r4 h5 => ?_)
  refine am_istore (LL := fun y9 => [some (am_R l0), some (am_I l1), some (am_I l2), some (am_I x3), some (am_I y9), none, none]) dX10_valueOf_13 (by decide) (fun _ => rfl) (fun x6 => ?_)
  refine am_aload_n dX10_valueOf_15 rfl ?_
  refine am_iload_n dX10_valueOf_16 rfl ?_
  refine am_iconst (v := 4) dX10_valueOf_17 (by decide) ?_
  refine am_callV (cvj := am_ci) (mtj := mX10_of) (dj := 0) (nj := 2) (rcj := 0) (rsj := 0) (rc' := 0) (rs' := 0) (ci := 10) (st' := fun a9 => (am_I a9 :: [])) ⟨_, rfl, rfl⟩ [am_I l1, am_I (4 : Int32)] [] dX10_valueOf_18 okX10_of lk_RX10_99 (fun zA zH zE => txX10_of l0 l1 (4 : Int32) h5 zA zH zE) rfl (fun _ => rfl) (by decide) rfl (Nat.le_of_ble_eq_true rfl) (by decide) (by decide) (fun r7 h8 => ?_)
  refine am_aload_n dX10_valueOf_21 rfl ?_
  refine am_iload_n dX10_valueOf_22 rfl ?_
  refine am_iconst (v := 4) dX10_valueOf_23 (by decide) ?_
  refine am_callV (cvj := am_ci) (mtj := mX10_of) (dj := 0) (nj := 2) (rcj := 0) (rsj := 0) (rc' := 0) (rs' := 0) (ci := 10) (st' := fun a9 => (am_I a9 :: [am_I r7])) ⟨_, rfl, rfl⟩ [am_I l2, am_I (4 : Int32)] [am_I r7] dX10_valueOf_24 okX10_of lk_RX10_99 (fun zA zH zE => txX10_of l0 l2 (4 : Int32) h8 zA zH zE) rfl (fun _ => rfl) (by decide) rfl (Nat.le_of_ble_eq_true rfl) (by decide) (by decide) (fun r9 h10 => ?_)
  refine am_iadd dX10_valueOf_27 ?_
  refine am_istore (LL := fun y9 => [some (am_R l0), some (am_I l1), some (am_I l2), some (am_I x3), some (am_I x6), some (am_I y9), none]) dX10_valueOf_28 (by decide) (fun _ => rfl) (fun x11 => ?_)
  refine am_aload_n dX10_valueOf_30 rfl ?_
  refine am_iconst (v := 0) dX10_valueOf_31 (by decide) ?_
  refine am_callV (cvj := am_ci) (mtj := mX10_counts) (dj := 0) (nj := 1) (rcj := 0) (rsj := 0) (rc' := 0) (rs' := 0) (ci := 10) (st' := fun a9 => (am_I a9 :: [])) ⟨_, rfl, rfl⟩ [am_I (0 : Int32)] [] dX10_valueOf_32 okX10_counts lk_RX10_125 (fun zA zH zE => txX10_counts l0 (0 : Int32) h10 zA zH zE) rfl (fun _ => rfl) (by decide) rfl (Nat.le_of_ble_eq_true rfl) (by decide) (by decide) (fun r12 h13 => ?_)
  refine am_istore (LL := fun y9 => [some (am_R l0), some (am_I l1), some (am_I l2), some (am_I x3), some (am_I x6), some (am_I x11), some (am_I y9)]) dX10_valueOf_35 (by decide) (fun _ => rfl) (fun x14 => ?_)
  refine am_aload_n dX10_valueOf_37 rfl ?_
  refine am_getR dX10_valueOf_38 fk_RX10_54 rfl ?_
  refine am_iconst (v := 0) dX10_valueOf_41 (by decide) ?_
  refine am_iload_n dX10_valueOf_42 rfl ?_
  refine am_iload dX10_valueOf_43 rfl ?_
  refine am_icmp_ge (tgt := 52) dX10_valueOf_45 (by decide) (fun c15 => ?_) (fun c15 => ?_)
  · refine am_iload dX10_valueOf_52 rfl ?_
    exact am_weak (sxX10_valueOf_b54 l0 x3 x6 x11 x14 x6 (0 : Int32) (am_gr h13 l0 25) h13) ⟨rfl, ⟨rfl, ⟨rfl, ⟨rfl, ⟨rfl, trivial⟩⟩⟩⟩⟩ (Nat.le_refl _) (Nat.le_refl _)
  refine am_iload_n dX10_valueOf_48 rfl ?_
  refine am_goto (tgt := 54) dX10_valueOf_49 (by decide) ?_
  exact am_weak (sxX10_valueOf_b54 l0 x3 x6 x11 x14 x3 (0 : Int32) (am_gr h13 l0 25) h13) ⟨rfl, ⟨rfl, ⟨rfl, ⟨rfl, ⟨rfl, trivial⟩⟩⟩⟩⟩ (Nat.le_refl _) (Nat.le_refl _)
theorem txX10_valueOf {xs : List Int32} (l0 : Option Nat) (l1 : Int32) (l2 : Int32) (h : am_H) (a : Int32) (h2 : am_H) (e : fxX10_valueOf l0 l1 l2 h = some (a, h2)) : am_Ct xs mX10_valueOf 2 0 0 [am_R l0, am_I l1, am_I l2] h (fun v h3 => v = am_ci a ∧ h3 = h2) := am_meth okX10_valueOf (Nat.le_of_ble_eq_true rfl) rfl (sxX10_valueOf l0 l1 l2 h) e
theorem dX10_value_0 : am_at cX10_value 0 (.aload_n 0) 1 1 := by decide +kernel
theorem dX10_value_1 : am_at cX10_value 1 (.iload_n 1) 1 2 := by decide +kernel
theorem dX10_value_2 : am_at cX10_value 2 (.invokevirtual 103) 3 5 := by decide +kernel
theorem dX10_value_5 : am_at cX10_value 5 (.ifCond .eq 16) 3 8 := by decide +kernel
theorem dX10_value_8 : am_at cX10_value 8 (.aload_n 0) 1 9 := by decide +kernel
theorem dX10_value_9 : am_at cX10_value 9 (.iload_n 2) 1 10 := by decide +kernel
theorem dX10_value_10 : am_at cX10_value 10 (.invokevirtual 103) 3 13 := by decide +kernel
theorem dX10_value_13 : am_at cX10_value 13 (.ifCond .eq 8) 3 16 := by decide +kernel
theorem dX10_value_16 : am_at cX10_value 16 (.iload_n 1) 1 17 := by decide +kernel
theorem dX10_value_17 : am_at cX10_value 17 (.iload_n 2) 1 18 := by decide +kernel
theorem dX10_value_18 : am_at cX10_value 18 (.if_icmp .ne 6) 3 21 := by decide +kernel
theorem dX10_value_21 : am_at cX10_value 21 (.ldc 93) 2 23 := by decide +kernel
theorem dX10_value_23 : am_at cX10_value 23 (.ireturn) 1 24 := by decide +kernel
theorem dX10_value_24 : am_at cX10_value 24 (.aload_n 0) 1 25 := by decide +kernel
theorem dX10_value_25 : am_at cX10_value 25 (.iload_n 1) 1 26 := by decide +kernel
theorem dX10_value_26 : am_at cX10_value 26 (.iload_n 2) 1 27 := by decide +kernel
theorem dX10_value_27 : am_at cX10_value 27 (.invokevirtual 135) 3 30 := by decide +kernel
theorem dX10_value_30 : am_at cX10_value 30 (.ifCond .eq 12) 3 33 := by decide +kernel
theorem dX10_value_33 : am_at cX10_value 33 (.aload_n 0) 1 34 := by decide +kernel
theorem dX10_value_34 : am_at cX10_value 34 (.iload_n 1) 1 35 := by decide +kernel
theorem dX10_value_35 : am_at cX10_value 35 (.iload_n 2) 1 36 := by decide +kernel
theorem dX10_value_36 : am_at cX10_value 36 (.invokevirtual 138) 3 39 := by decide +kernel
theorem dX10_value_39 : am_at cX10_value 39 (.goto 5) 3 42 := by decide +kernel
theorem dX10_value_42 : am_at cX10_value 42 (.ldc 84) 2 44 := by decide +kernel
theorem dX10_value_44 : am_at cX10_value 44 (.ireturn) 1 45 := by decide +kernel
def fxX10_value (l0 : Option Nat) (l1 : Int32) (l2 : Int32) (h : am_H) : Option (Int32 × am_H) := am_gd (am_ob h l0 10) (am_bd (fxX10_isGlove l0 l1 h) (fun r1 h2 => if r1 = 0 then (some ((-1000000001 : Int32), h2)) else (am_gd (am_ob h2 l0 10) (am_bd (fxX10_isGlove l0 l2 h2) (fun r3 h4 => if r3 = 0 then (some ((-1000000001 : Int32), h4)) else (if l1 = l2 then (some ((-1000000001 : Int32), h4)) else (am_gd (am_ob h4 l0 10) (am_bd (fxX10_isPair l0 l1 l2 h4) (fun r5 h6 => if r5 = 0 then (some ((-1000000005 : Int32), h6)) else (am_gd (am_ob h6 l0 10) (am_bd (fxX10_valueOf l0 l1 l2 h6) (fun r7 h8 => some (r7, h8)))))))))))))
set_option maxRecDepth 100000 in
theorem sxX10_value {xs : List Int32} (l0 : Option Nat) (l1 : Int32) (l2 : Int32) (h : am_H) : am_Sm xs am_ci mX10_value 3 0 0 0 [some (am_R l0), some (am_I l1), some (am_I l2)] [] h (fxX10_value l0 l1 l2 h) := by
  unfold fxX10_value
  refine am_aload_n dX10_value_0 rfl ?_
  refine am_iload_n dX10_value_1 rfl ?_
  refine am_callV (cvj := am_ci) (mtj := mX10_isGlove) (dj := 1) (nj := 1) (rcj := 0) (rsj := 0) (rc' := 0) (rs' := 0) (ci := 10) (st' := fun a9 => (am_I a9 :: [])) ⟨_, rfl, rfl⟩ [am_I l1] [] dX10_value_2 okX10_isGlove lk_RX10_103 (fun zA zH zE => txX10_isGlove l0 l1 h zA zH zE) rfl (fun _ => rfl) (by decide) rfl (Nat.le_of_ble_eq_true rfl) (by decide) (by decide) (fun r1 h2 => ?_)
  refine am_if_eq (tgt := 21) dX10_value_5 (by decide) (fun c12 => ?_) (fun c12 => ?_)
  · refine am_ldc (v := (-1000000001)) dX10_value_21 wd1060 ?_
    exact am_iret dX10_value_23 rfl rfl
  refine am_aload_n dX10_value_8 rfl ?_
  refine am_iload_n dX10_value_9 rfl ?_
  refine am_callV (cvj := am_ci) (mtj := mX10_isGlove) (dj := 1) (nj := 1) (rcj := 0) (rsj := 0) (rc' := 0) (rs' := 0) (ci := 10) (st' := fun a9 => (am_I a9 :: [])) ⟨_, rfl, rfl⟩ [am_I l2] [] dX10_value_10 okX10_isGlove lk_RX10_103 (fun zA zH zE => txX10_isGlove l0 l2 h2 zA zH zE) rfl (fun _ => rfl) (by decide) rfl (Nat.le_of_ble_eq_true rfl) (by decide) (by decide) (fun r3 h4 => ?_)
  refine am_if_eq (tgt := 21) dX10_value_13 (by decide) (fun c11 => ?_) (fun c11 => ?_)
  · refine am_ldc (v := (-1000000001)) dX10_value_21 wd1060 ?_
    exact am_iret dX10_value_23 rfl rfl
  refine am_iload_n dX10_value_16 rfl ?_
  refine am_iload_n dX10_value_17 rfl ?_
  refine am_icmp_ne (tgt := 24) dX10_value_18 (by decide) (fun c10 => ?_) (fun c10 => ?_)
  · refine am_aload_n dX10_value_24 rfl ?_
    refine am_iload_n dX10_value_25 rfl ?_
    refine am_iload_n dX10_value_26 rfl ?_
    refine am_callV (cvj := am_ci) (mtj := mX10_isPair) (dj := 2) (nj := 2) (rcj := 0) (rsj := 0) (rc' := 0) (rs' := 0) (ci := 10) (st' := fun a9 => (am_I a9 :: [])) ⟨_, rfl, rfl⟩ [am_I l1, am_I l2] [] dX10_value_27 okX10_isPair lk_RX10_135 (fun zA zH zE => txX10_isPair l0 l1 l2 h4 zA zH zE) rfl (fun _ => rfl) (by decide) rfl (Nat.le_of_ble_eq_true rfl) (by decide) (by decide) (fun r5 h6 => ?_)
    refine am_if_eq (tgt := 42) dX10_value_30 (by decide) (fun c9 => ?_) (fun c9 => ?_)
    · refine am_ldc (v := (-1000000005)) dX10_value_42 wd1143 ?_
      exact am_iret dX10_value_44 rfl rfl
    refine am_aload_n dX10_value_33 rfl ?_
    refine am_iload_n dX10_value_34 rfl ?_
    refine am_iload_n dX10_value_35 rfl ?_
    refine am_callV (cvj := am_ci) (mtj := mX10_valueOf) (dj := 2) (nj := 2) (rcj := 0) (rsj := 0) (rc' := 0) (rs' := 0) (ci := 10) (st' := fun a9 => (am_I a9 :: [])) ⟨_, rfl, rfl⟩ [am_I l1, am_I l2] [] dX10_value_36 okX10_valueOf lk_RX10_138 (fun zA zH zE => txX10_valueOf l0 l1 l2 h6 zA zH zE) rfl (fun _ => rfl) (by decide) rfl (Nat.le_of_ble_eq_true rfl) (by decide) (by decide) (fun r7 h8 => ?_)
    refine am_goto (tgt := 44) dX10_value_39 (by decide) ?_
    exact am_iret dX10_value_44 rfl rfl
  refine am_ldc (v := (-1000000001)) dX10_value_21 wd1060 ?_
  exact am_iret dX10_value_23 rfl rfl
theorem txX10_value {xs : List Int32} (l0 : Option Nat) (l1 : Int32) (l2 : Int32) (h : am_H) (a : Int32) (h2 : am_H) (e : fxX10_value l0 l1 l2 h = some (a, h2)) : am_Ct xs mX10_value 3 0 0 [am_R l0, am_I l1, am_I l2] h (fun v h3 => v = am_ci a ∧ h3 = h2) := am_meth okX10_value (Nat.le_of_ble_eq_true rfl) rfl (sxX10_value l0 l1 l2 h) e
theorem dX10_draw_0 : am_at cX10_draw 0 (.aload_n 0) 1 1 := by decide +kernel
theorem dX10_draw_1 : am_at cX10_draw 1 (.getfield 9) 3 4 := by decide +kernel
theorem dX10_draw_4 : am_at cX10_draw 4 (.iconst 0) 1 5 := by decide +kernel
theorem dX10_draw_5 : am_at cX10_draw 5 (.aload_n 0) 1 6 := by decide +kernel
theorem dX10_draw_6 : am_at cX10_draw 6 (.getfield 9) 3 9 := by decide +kernel
theorem dX10_draw_9 : am_at cX10_draw 9 (.iconst 0) 1 10 := by decide +kernel
theorem dX10_draw_10 : am_at cX10_draw 10 (.iaload) 1 11 := by decide +kernel
theorem dX10_draw_11 : am_at cX10_draw 11 (.ldc 141) 2 13 := by decide +kernel
theorem dX10_draw_13 : am_at cX10_draw 13 (.imul) 1 14 := by decide +kernel
theorem dX10_draw_14 : am_at cX10_draw 14 (.sipush 12345) 3 17 := by decide +kernel
theorem dX10_draw_17 : am_at cX10_draw 17 (.iadd) 1 18 := by decide +kernel
theorem dX10_draw_18 : am_at cX10_draw 18 (.iastore) 1 19 := by decide +kernel
theorem dX10_draw_19 : am_at cX10_draw 19 (.aload_n 0) 1 20 := by decide +kernel
theorem dX10_draw_20 : am_at cX10_draw 20 (.getfield 9) 3 23 := by decide +kernel
theorem dX10_draw_23 : am_at cX10_draw 23 (.iconst 0) 1 24 := by decide +kernel
theorem dX10_draw_24 : am_at cX10_draw 24 (.iaload) 1 25 := by decide +kernel
theorem dX10_draw_25 : am_at cX10_draw 25 (.bipush 8) 2 27 := by decide +kernel
theorem dX10_draw_27 : am_at cX10_draw 27 (.iushr) 1 28 := by decide +kernel
theorem dX10_draw_28 : am_at cX10_draw 28 (.ireturn) 1 29 := by decide +kernel
def fxX10_draw (l0 : Option Nat) (h : am_H) : Option (Int32 × am_H) := am_gd (am_ob h l0 10) (am_gd (am_ob h l0 10) (am_gd (am_ix h (am_gr h l0 0) 0 (0 : Int32)) (am_gd (am_ix h (am_gr h l0 0) 0 (0 : Int32)) (am_lt (am_si h (am_gr h l0 0) (0 : Int32).toNatClampNeg (((am_gi h (am_gr h l0 0) (0 : Int32).toNatClampNeg) * (1103515245 : Int32)) + (12345 : Int32))) (fun h1 => am_gd (am_ob h1 l0 10) (am_gd (am_ix h1 (am_gr h1 l0 0) 0 (0 : Int32)) (some ((am_ush (am_gi h1 (am_gr h1 l0 0) (0 : Int32).toNatClampNeg) (8 : Int32)), h1))))))))
set_option maxRecDepth 100000 in
theorem sxX10_draw {xs : List Int32} (l0 : Option Nat) (h : am_H) : am_Sm xs am_ci mX10_draw 0 0 0 0 [some (am_R l0)] [] h (fxX10_draw l0 h) := by
  unfold fxX10_draw
  refine am_aload_n dX10_draw_0 rfl ?_
  refine am_getR dX10_draw_1 fk_RX10_9 rfl ?_
  refine am_iconst (v := 0) dX10_draw_4 (by decide) ?_
  refine am_aload_n dX10_draw_5 rfl ?_
  refine am_getR dX10_draw_6 fk_RX10_9 rfl ?_
  refine am_iconst (v := 0) dX10_draw_9 (by decide) ?_
  refine am_iald dX10_draw_10 ?_
  refine am_ldc (v := 1103515245) dX10_draw_11 wd1152 ?_
  refine am_imul dX10_draw_13 ?_
  refine am_sipush (v := 12345) dX10_draw_14 (by decide) ?_
  refine am_iadd dX10_draw_17 ?_
  refine am_iast dX10_draw_18 (fun h1 => ?_)
  refine am_aload_n dX10_draw_19 rfl ?_
  refine am_getR dX10_draw_20 fk_RX10_9 rfl ?_
  refine am_iconst (v := 0) dX10_draw_23 (by decide) ?_
  refine am_iald dX10_draw_24 ?_
  refine am_bipush (v := 8) dX10_draw_25 (by decide) ?_
  refine am_iushr dX10_draw_27 ?_
  exact am_iret dX10_draw_28 rfl rfl
theorem txX10_draw {xs : List Int32} (l0 : Option Nat) (h : am_H) (a : Int32) (h2 : am_H) (e : fxX10_draw l0 h = some (a, h2)) : am_Ct xs mX10_draw 0 0 0 [am_R l0] h (fun v h3 => v = am_ci a ∧ h3 = h2) := am_meth okX10_draw (Nat.le_of_ble_eq_true rfl) rfl (sxX10_draw l0 h) e
theorem dX10_deal_0 : am_at cX10_deal 0 (.iload_n 1) 1 1 := by decide +kernel
theorem dX10_deal_1 : am_at cX10_deal 1 (.iconst 1) 1 2 := by decide +kernel
theorem dX10_deal_2 : am_at cX10_deal 2 (.bipush 10) 2 4 := by decide +kernel
theorem dX10_deal_4 : am_at cX10_deal 4 (.invokestatic 85) 3 7 := by decide +kernel
theorem dX10_deal_7 : am_at cX10_deal 7 (.ifCond .ne 6) 3 10 := by decide +kernel
theorem dX10_deal_10 : am_at cX10_deal 10 (.ldc 93) 2 12 := by decide +kernel
theorem dX10_deal_12 : am_at cX10_deal 12 (.ireturn) 1 13 := by decide +kernel
theorem dX10_deal_13 : am_at cX10_deal 13 (.iconst 0) 1 14 := by decide +kernel
theorem dX10_deal_14 : am_at cX10_deal 14 (.istore_n 2) 1 15 := by decide +kernel
theorem dX10_deal_15 : am_at cX10_deal 15 (.iload_n 2) 1 16 := by decide +kernel
theorem dX10_deal_16 : am_at cX10_deal 16 (.iload_n 1) 1 17 := by decide +kernel
theorem dX10_deal_17 : am_at cX10_deal 17 (.if_icmp .ge 63) 3 20 := by decide +kernel
theorem dX10_deal_20 : am_at cX10_deal 20 (.aload_n 0) 1 21 := by decide +kernel
theorem dX10_deal_21 : am_at cX10_deal 21 (.getfield 9) 3 24 := by decide +kernel
theorem dX10_deal_24 : am_at cX10_deal 24 (.iconst 1) 1 25 := by decide +kernel
theorem dX10_deal_25 : am_at cX10_deal 25 (.iaload) 1 26 := by decide +kernel
theorem dX10_deal_26 : am_at cX10_deal 26 (.bipush 10) 2 28 := by decide +kernel
theorem dX10_deal_28 : am_at cX10_deal 28 (.if_icmp .ge 52) 3 31 := by decide +kernel
theorem dX10_deal_31 : am_at cX10_deal 31 (.aload_n 0) 1 32 := by decide +kernel
theorem dX10_deal_32 : am_at cX10_deal 32 (.invokevirtual 142) 3 35 := by decide +kernel
theorem dX10_deal_35 : am_at cX10_deal 35 (.bipush 6) 2 37 := by decide +kernel
theorem dX10_deal_37 : am_at cX10_deal 37 (.irem) 1 38 := by decide +kernel
theorem dX10_deal_38 : am_at cX10_deal 38 (.istore_n 3) 1 39 := by decide +kernel
theorem dX10_deal_39 : am_at cX10_deal 39 (.aload_n 0) 1 40 := by decide +kernel
theorem dX10_deal_40 : am_at cX10_deal 40 (.invokevirtual 142) 3 43 := by decide +kernel
theorem dX10_deal_43 : am_at cX10_deal 43 (.iconst 2) 1 44 := by decide +kernel
theorem dX10_deal_44 : am_at cX10_deal 44 (.irem) 1 45 := by decide +kernel
theorem dX10_deal_45 : am_at cX10_deal 45 (.istore 4) 2 47 := by decide +kernel
theorem dX10_deal_47 : am_at cX10_deal 47 (.aload_n 0) 1 48 := by decide +kernel
theorem dX10_deal_48 : am_at cX10_deal 48 (.invokevirtual 142) 3 51 := by decide +kernel
theorem dX10_deal_51 : am_at cX10_deal 51 (.bipush 10) 2 53 := by decide +kernel
theorem dX10_deal_53 : am_at cX10_deal 53 (.irem) 1 54 := by decide +kernel
theorem dX10_deal_54 : am_at cX10_deal 54 (.istore 5) 2 56 := by decide +kernel
theorem dX10_deal_56 : am_at cX10_deal 56 (.aload_n 0) 1 57 := by decide +kernel
theorem dX10_deal_57 : am_at cX10_deal 57 (.iload_n 3) 1 58 := by decide +kernel
theorem dX10_deal_58 : am_at cX10_deal 58 (.iload 4) 2 60 := by decide +kernel
theorem dX10_deal_60 : am_at cX10_deal 60 (.iload 5) 2 62 := by decide +kernel
theorem dX10_deal_62 : am_at cX10_deal 62 (.aload_n 0) 1 63 := by decide +kernel
theorem dX10_deal_63 : am_at cX10_deal 63 (.invokevirtual 142) 3 66 := by decide +kernel
theorem dX10_deal_66 : am_at cX10_deal 66 (.bipush 100) 2 68 := by decide +kernel
theorem dX10_deal_68 : am_at cX10_deal 68 (.irem) 1 69 := by decide +kernel
theorem dX10_deal_69 : am_at cX10_deal 69 (.invokevirtual 95) 3 72 := by decide +kernel
theorem dX10_deal_72 : am_at cX10_deal 72 (.istore 6) 2 74 := by decide +kernel
theorem dX10_deal_74 : am_at cX10_deal 74 (.iinc 2 1) 3 77 := by decide +kernel
theorem dX10_deal_77 : am_at cX10_deal 77 (.goto (-62)) 3 80 := by decide +kernel
theorem dX10_deal_80 : am_at cX10_deal 80 (.iload_n 2) 1 81 := by decide +kernel
theorem dX10_deal_81 : am_at cX10_deal 81 (.ireturn) 1 82 := by decide +kernel
def fxX10_deal_b15 : Nat → Option Nat → Int32 → Int32 → am_H → Option (Int32 × am_H)
  | 0, _, _, _, _ => none
  | n + 1, l0, l1, l2, h => if l1 ≤ l2 then (some (l2, h)) else (am_gd (am_ob h l0 10) (am_gd (am_ix h (am_gr h l0 0) 0 (1 : Int32)) (if (10 : Int32) ≤ (am_gi h (am_gr h l0 0) (1 : Int32).toNatClampNeg) then (some (l2, h)) else (am_gd (am_ob h l0 10) (am_bd (fxX10_draw l0 h) (fun r5 h6 => am_gd (am_nz (6 : Int32)) (am_lt (am_rem r5 (6 : Int32)) (fun x7 => am_gd (am_ob h6 l0 10) (am_bd (fxX10_draw l0 h6) (fun r8 h9 => am_gd (am_nz (2 : Int32)) (am_lt (am_rem r8 (2 : Int32)) (fun x10 => am_gd (am_ob h9 l0 10) (am_bd (fxX10_draw l0 h9) (fun r11 h12 => am_gd (am_nz (10 : Int32)) (am_lt (am_rem r11 (10 : Int32)) (fun x13 => am_gd (am_ob h12 l0 10) (am_bd (fxX10_draw l0 h12) (fun r14 h15 => am_gd (am_nz (100 : Int32)) (am_gd (am_ob h15 l0 10) (am_bd (fxX10_comes l0 x7 x10 x13 (am_rem r14 (100 : Int32)) h15) (fun r16 h17 => am_lt r16 (fun x18 => am_lt (l2 + 1) (fun x19 => fxX10_deal_b15 n l0 l1 x19 h17)))))))))))))))))))))))
set_option maxRecDepth 100000 in
theorem sxX10_deal_b15 {xs : List Int32} : ∀ (n : Nat) (l0 : Option Nat) (l1 : Int32) (l2 : Int32) (h : am_H), am_Sm xs am_ci mX10_deal 2 0 0 15 [some (am_R l0), some (am_I l1), some (am_I l2), none, none, none, none] [] h (fxX10_deal_b15 n l0 l1 l2 h) := by
  intro n
  induction n with
  | zero => intros; exact am_none
  | succ n ih =>
    intro l0 l1 l2 h
    rw [fxX10_deal_b15]
    refine am_iload_n dX10_deal_15 rfl ?_
    refine am_iload_n dX10_deal_16 rfl ?_
    refine am_icmp_ge (tgt := 80) dX10_deal_17 (by decide) (fun c21 => ?_) (fun c21 => ?_)
    · refine am_iload_n dX10_deal_80 rfl ?_
      exact am_iret dX10_deal_81 rfl rfl
    refine am_aload_n dX10_deal_20 rfl ?_
    refine am_getR dX10_deal_21 fk_RX10_9 rfl ?_
    refine am_iconst (v := 1) dX10_deal_24 (by decide) ?_
    refine am_iald dX10_deal_25 ?_
    refine am_bipush (v := 10) dX10_deal_26 (by decide) ?_
    refine am_icmp_ge (tgt := 80) dX10_deal_28 (by decide) (fun c20 => ?_) (fun c20 => ?_)
    · refine am_iload_n dX10_deal_80 rfl ?_
      exact am_iret dX10_deal_81 rfl rfl
    refine am_aload_n dX10_deal_31 rfl ?_
    refine am_callV (cvj := am_ci) (mtj := mX10_draw) (dj := 0) (nj := 0) (rcj := 0) (rsj := 0) (rc' := 0) (rs' := 0) (ci := 10) (st' := fun a9 => (am_I a9 :: [])) ⟨_, rfl, rfl⟩ [] [] dX10_deal_32 okX10_draw lk_RX10_142 (fun zA zH zE => txX10_draw l0 h zA zH zE) rfl (fun _ => rfl) (by decide) rfl (Nat.le_of_ble_eq_true rfl) (by decide) (by decide) (fun r5 h6 => ?_)
    refine am_bipush (v := 6) dX10_deal_35 (by decide) ?_
    refine am_irem dX10_deal_37 ?_
    refine am_istore_n (LL := fun y9 => [some (am_R l0), some (am_I l1), some (am_I l2), some (am_I y9), none, none, none]) dX10_deal_38 (by decide) (fun _ => rfl) (fun x7 => ?_)
    refine am_aload_n dX10_deal_39 rfl ?_
    refine am_callV (cvj := am_ci) (mtj := mX10_draw) (dj := 0) (nj := 0) (rcj := 0) (rsj := 0) (rc' := 0) (rs' := 0) (ci := 10) (st' := fun a9 => (am_I a9 :: [])) ⟨_, rfl, rfl⟩ [] [] dX10_deal_40 okX10_draw lk_RX10_142 (fun zA zH zE => txX10_draw l0 h6 zA zH zE) rfl (fun _ => rfl) (by decide) rfl (Nat.le_of_ble_eq_true rfl) (by decide) (by decide) (fun r8 h9 => ?_)
    refine am_iconst (v := 2) dX10_deal_43 (by decide) ?_
    refine am_irem dX10_deal_44 ?_
    refine am_istore (LL := fun y9 => [some (am_R l0), some (am_I l1), some (am_I l2), some (am_I x7), some (am_I y9), none, none]) dX10_deal_45 (by decide) (fun _ => rfl) (fun x10 => ?_)
    refine am_aload_n dX10_deal_47 rfl ?_
    refine am_callV (cvj := am_ci) (mtj := mX10_draw) (dj := 0) (nj := 0) (rcj := 0) (rsj := 0) (rc' := 0) (rs' := 0) (ci := 10) (st' := fun a9 => (am_I a9 :: [])) ⟨_, rfl, rfl⟩ [] [] dX10_deal_48 okX10_draw lk_RX10_142 (fun zA zH zE => txX10_draw l0 h9 zA zH zE) rfl (fun _ => rfl) (by decide) rfl (Nat.le_of_ble_eq_true rfl) (by decide) (by decide) (fun r11 h12 => ?_)
    refine am_bipush (v := 10) dX10_deal_51 (by decide) ?_
    refine am_irem dX10_deal_53 ?_
    refine am_istore (LL := fun y9 => [some (am_R l0), some (am_I l1), some (am_I l2), some (am_I x7), some (am_I x10), some (am_I y9), none]) dX10_deal_54 (by decide) (fun _ => rfl) (fun x13 => ?_)
    refine am_aload_n dX10_deal_56 rfl ?_
    refine am_iload_n dX10_deal_57 rfl ?_
    refine am_iload dX10_deal_58 rfl ?_
    refine am_iload dX10_deal_60 rfl ?_
    refine am_aload_n dX10_deal_62 rfl ?_
    refine am_callV (cvj := am_ci) (mtj := mX10_draw) (dj := 0) (nj := 0) (rcj := 0) (rsj := 0) (rc' := 0) (rs' := 0) (ci := 10) (st' := fun a9 => (am_I a9 :: [am_I x13, am_I x10, am_I x7, am_R l0])) ⟨_, rfl, rfl⟩ [] [am_I x13, am_I x10, am_I x7, am_R l0] dX10_deal_63 okX10_draw lk_RX10_142 (fun zA zH zE => txX10_draw l0 h12 zA zH zE) rfl (fun _ => rfl) (by decide) rfl (Nat.le_of_ble_eq_true rfl) (by decide) (by decide) (fun r14 h15 => ?_)
    refine am_bipush (v := 100) dX10_deal_66 (by decide) ?_
    refine am_irem dX10_deal_68 ?_
    refine am_callV (cvj := am_ci) (mtj := mX10_comes) (dj := 1) (nj := 4) (rcj := 0) (rsj := 0) (rc' := 0) (rs' := 0) (ci := 10) (st' := fun a9 => (am_I a9 :: [])) ⟨_, rfl, rfl⟩ [am_I x7, am_I x10, am_I x13, am_I (am_rem r14 (100 : Int32))] [] dX10_deal_69 okX10_comes lk_RX10_95 (fun zA zH zE => txX10_comes l0 x7 x10 x13 (am_rem r14 (100 : Int32)) h15 zA zH zE) rfl (fun _ => rfl) (by decide) rfl (Nat.le_of_ble_eq_true rfl) (by decide) (by decide) (fun r16 h17 => ?_)
    refine am_istore (LL := fun y9 => [some (am_R l0), some (am_I l1), some (am_I l2), some (am_I x7), some (am_I x10), some (am_I x13), some (am_I y9)]) dX10_deal_72 (by decide) (fun _ => rfl) (fun x18 => ?_)
    refine am_iinc (v := 1) (LL := fun y9 => [some (am_R l0), some (am_I l1), some (am_I y9), some (am_I x7), some (am_I x10), some (am_I x13), some (am_I x18)]) dX10_deal_74 (by decide) rfl (by decide) (fun _ => rfl) (fun x19 => ?_)
    refine am_goto (tgt := 15) dX10_deal_77 (by decide) ?_
    exact am_weak (ih l0 l1 x19 h17) ⟨rfl, ⟨rfl, ⟨rfl, trivial⟩⟩⟩ (Nat.le_refl _) (Nat.le_refl _)
def fxX10_deal (l0 : Option Nat) (l1 : Int32) (h : am_H) : Option (Int32 × am_H) := am_bd (fxX10_in l1 (1 : Int32) (10 : Int32) h) (fun r1 h2 => if r1 = 0 then (some ((-1000000001 : Int32), h2)) else (am_lt (0 : Int32) (fun x3 => fxX10_deal_b15 am_F l0 l1 x3 h2)))
set_option maxRecDepth 100000 in
theorem sxX10_deal {xs : List Int32} (l0 : Option Nat) (l1 : Int32) (h : am_H) : am_Sm xs am_ci mX10_deal 2 0 0 0 [some (am_R l0), some (am_I l1), none, none, none, none, none] [] h (fxX10_deal l0 l1 h) := by
  unfold fxX10_deal
  refine am_iload_n dX10_deal_0 rfl ?_
  refine am_iconst (v := 1) dX10_deal_1 (by decide) ?_
  refine am_bipush (v := 10) dX10_deal_2 (by decide) ?_
  refine am_callS (cvj := am_ci) (mtj := mX10_in) (dj := 0) (nj := 3) (rcj := 0) (rsj := 0) (rc' := 0) (rs' := 0) (st' := fun a9 => (am_I a9 :: [])) [am_I l1, am_I (1 : Int32), am_I (10 : Int32)] [] dX10_deal_4 okX10_in lk_RX10_85 (fun zA zH zE => txX10_in l1 (1 : Int32) (10 : Int32) h zA zH zE) rfl (fun _ => rfl) (by decide) rfl (Nat.le_of_ble_eq_true rfl) (by decide) (by decide) (fun r1 h2 => ?_)
  refine am_if_ne (tgt := 13) dX10_deal_7 (by decide) (fun c4 => ?_) (fun c4 => ?_)
  · refine am_iconst (v := 0) dX10_deal_13 (by decide) ?_
    refine am_istore_n (LL := fun y9 => [some (am_R l0), some (am_I l1), some (am_I y9), none, none, none, none]) dX10_deal_14 (by decide) (fun _ => rfl) (fun x3 => ?_)
    exact am_weak (sxX10_deal_b15 am_F l0 l1 x3 h2) ⟨rfl, ⟨rfl, ⟨rfl, trivial⟩⟩⟩ (Nat.le_refl _) (Nat.le_refl _)
  refine am_ldc (v := (-1000000001)) dX10_deal_10 wd1060 ?_
  exact am_iret dX10_deal_12 rfl rfl
theorem txX10_deal {xs : List Int32} (l0 : Option Nat) (l1 : Int32) (h : am_H) (a : Int32) (h2 : am_H) (e : fxX10_deal l0 l1 h = some (a, h2)) : am_Ct xs mX10_deal 2 0 0 [am_R l0, am_I l1] h (fun v h3 => v = am_ci a ∧ h3 = h2) := am_meth okX10_deal (Nat.le_of_ble_eq_true rfl) rfl (sxX10_deal l0 l1 h) e
theorem dX10_seed_0 : am_at cX10_seed 0 (.aload_n 0) 1 1 := by decide +kernel
theorem dX10_seed_1 : am_at cX10_seed 1 (.iconst 0) 1 2 := by decide +kernel
theorem dX10_seed_2 : am_at cX10_seed 2 (.iload_n 1) 1 3 := by decide +kernel
theorem dX10_seed_3 : am_at cX10_seed 3 (.invokevirtual 116) 3 6 := by decide +kernel
theorem dX10_seed_6 : am_at cX10_seed 6 (.ireturn) 1 7 := by decide +kernel
def fxX10_seed (l0 : Option Nat) (l1 : Int32) (h : am_H) : Option (Int32 × am_H) := am_gd (am_ob h l0 10) (am_bd (fxX10_becomes l0 (0 : Int32) l1 h) (fun r1 h2 => some (r1, h2)))
set_option maxRecDepth 100000 in
theorem sxX10_seed {xs : List Int32} (l0 : Option Nat) (l1 : Int32) (h : am_H) : am_Sm xs am_ci mX10_seed 1 0 0 0 [some (am_R l0), some (am_I l1)] [] h (fxX10_seed l0 l1 h) := by
  unfold fxX10_seed
  refine am_aload_n dX10_seed_0 rfl ?_
  refine am_iconst (v := 0) dX10_seed_1 (by decide) ?_
  refine am_iload_n dX10_seed_2 rfl ?_
  refine am_callV (cvj := am_ci) (mtj := mX10_becomes) (dj := 0) (nj := 2) (rcj := 0) (rsj := 0) (rc' := 0) (rs' := 0) (ci := 10) (st' := fun a9 => (am_I a9 :: [])) ⟨_, rfl, rfl⟩ [am_I (0 : Int32), am_I l1] [] dX10_seed_3 okX10_becomes lk_RX10_116 (fun zA zH zE => txX10_becomes l0 (0 : Int32) l1 h zA zH zE) rfl (fun _ => rfl) (by decide) rfl (Nat.le_of_ble_eq_true rfl) (by decide) (by decide) (fun r1 h2 => ?_)
  exact am_iret dX10_seed_6 rfl rfl
theorem txX10_seed {xs : List Int32} (l0 : Option Nat) (l1 : Int32) (h : am_H) (a : Int32) (h2 : am_H) (e : fxX10_seed l0 l1 h = some (a, h2)) : am_Ct xs mX10_seed 1 0 0 [am_R l0, am_I l1] h (fun v h3 => v = am_ci a ∧ h3 = h2) := am_meth okX10_seed (Nat.le_of_ble_eq_true rfl) rfl (sxX10_seed l0 l1 h) e
theorem dX10_firstOf_0 : am_at cX10_firstOf 0 (.iconst 0) 1 1 := by decide +kernel
theorem dX10_firstOf_1 : am_at cX10_firstOf 1 (.istore_n 1) 1 2 := by decide +kernel
theorem dX10_firstOf_2 : am_at cX10_firstOf 2 (.iload_n 0) 1 3 := by decide +kernel
theorem dX10_firstOf_3 : am_at cX10_firstOf 3 (.iload_n 1) 1 4 := by decide +kernel
theorem dX10_firstOf_4 : am_at cX10_firstOf 4 (.ishr) 1 5 := by decide +kernel
theorem dX10_firstOf_5 : am_at cX10_firstOf 5 (.iconst 1) 1 6 := by decide +kernel
theorem dX10_firstOf_6 : am_at cX10_firstOf 6 (.iand) 1 7 := by decide +kernel
theorem dX10_firstOf_7 : am_at cX10_firstOf 7 (.ifCond .ne 9) 3 10 := by decide +kernel
theorem dX10_firstOf_10 : am_at cX10_firstOf 10 (.iinc 1 1) 3 13 := by decide +kernel
theorem dX10_firstOf_13 : am_at cX10_firstOf 13 (.goto (-11)) 3 16 := by decide +kernel
theorem dX10_firstOf_16 : am_at cX10_firstOf 16 (.iload_n 1) 1 17 := by decide +kernel
theorem dX10_firstOf_17 : am_at cX10_firstOf 17 (.ireturn) 1 18 := by decide +kernel
def fxX10_firstOf_b2 : Nat → Int32 → Int32 → am_H → Option (Int32 × am_H)
  | 0, _, _, _ => none
  | n + 1, l0, l1, h => if ((l0 >>> (l1 &&& 31)) &&& (1 : Int32)) = 0 then (am_lt (l1 + 1) (fun x2 => fxX10_firstOf_b2 n l0 x2 h)) else (some (l1, h))
set_option maxRecDepth 100000 in
theorem sxX10_firstOf_b2 {xs : List Int32} : ∀ (n : Nat) (l0 : Int32) (l1 : Int32) (h : am_H), am_Sm xs am_ci mX10_firstOf 0 0 0 2 [some (am_I l0), some (am_I l1)] [] h (fxX10_firstOf_b2 n l0 l1 h) := by
  intro n
  induction n with
  | zero => intros; exact am_none
  | succ n ih =>
    intro l0 l1 h
    rw [fxX10_firstOf_b2]
    refine am_iload_n dX10_firstOf_2 rfl ?_
    refine am_iload_n dX10_firstOf_3 rfl ?_
    refine am_ishr dX10_firstOf_4 ?_
    refine am_iconst (v := 1) dX10_firstOf_5 (by decide) ?_
    refine am_iand dX10_firstOf_6 ?_
    refine am_if_ne (tgt := 16) dX10_firstOf_7 (by decide) (fun c3 => ?_) (fun c3 => ?_)
    · refine am_iload_n dX10_firstOf_16 rfl ?_
      exact am_iret dX10_firstOf_17 rfl rfl
    refine am_iinc (v := 1) (LL := fun y9 => [some (am_I l0), some (am_I y9)]) dX10_firstOf_10 (by decide) rfl (by decide) (fun _ => rfl) (fun x2 => ?_)
    refine am_goto (tgt := 2) dX10_firstOf_13 (by decide) ?_
    exact am_weak (ih l0 x2 h) ⟨rfl, ⟨rfl, trivial⟩⟩ (Nat.le_refl _) (Nat.le_refl _)
def fxX10_firstOf (l0 : Int32) (h : am_H) : Option (Int32 × am_H) := am_lt (0 : Int32) (fun x1 => fxX10_firstOf_b2 am_F l0 x1 h)
set_option maxRecDepth 100000 in
theorem sxX10_firstOf {xs : List Int32} (l0 : Int32) (h : am_H) : am_Sm xs am_ci mX10_firstOf 0 0 0 0 [some (am_I l0), none] [] h (fxX10_firstOf l0 h) := by
  unfold fxX10_firstOf
  refine am_iconst (v := 0) dX10_firstOf_0 (by decide) ?_
  refine am_istore_n (LL := fun y9 => [some (am_I l0), some (am_I y9)]) dX10_firstOf_1 (by decide) (fun _ => rfl) (fun x1 => ?_)
  exact am_weak (sxX10_firstOf_b2 am_F l0 x1 h) ⟨rfl, ⟨rfl, trivial⟩⟩ (Nat.le_refl _) (Nat.le_refl _)
theorem txX10_firstOf {xs : List Int32} (l0 : Int32) (h : am_H) (a : Int32) (h2 : am_H) (e : fxX10_firstOf l0 h = some (a, h2)) : am_Ct xs mX10_firstOf 0 0 0 [am_I l0] h (fun v h3 => v = am_ci a ∧ h3 = h2) := am_meth okX10_firstOf (Nat.le_of_ble_eq_true rfl) rfl (sxX10_firstOf l0 h) e
theorem dX10_bestFrom_0 : am_at cX10_bestFrom 0 (.iload_n 1) 1 1 := by decide +kernel
theorem dX10_bestFrom_1 : am_at cX10_bestFrom 1 (.ifCond .ne 5) 3 4 := by decide +kernel
theorem dX10_bestFrom_4 : am_at cX10_bestFrom 4 (.iconst 0) 1 5 := by decide +kernel
theorem dX10_bestFrom_5 : am_at cX10_bestFrom 5 (.ireturn) 1 6 := by decide +kernel
theorem dX10_bestFrom_6 : am_at cX10_bestFrom 6 (.iload_n 1) 1 7 := by decide +kernel
theorem dX10_bestFrom_7 : am_at cX10_bestFrom 7 (.invokestatic 149) 3 10 := by decide +kernel
theorem dX10_bestFrom_10 : am_at cX10_bestFrom 10 (.istore_n 2) 1 11 := by decide +kernel
theorem dX10_bestFrom_11 : am_at cX10_bestFrom 11 (.iload_n 1) 1 12 := by decide +kernel
theorem dX10_bestFrom_12 : am_at cX10_bestFrom 12 (.iconst 1) 1 13 := by decide +kernel
theorem dX10_bestFrom_13 : am_at cX10_bestFrom 13 (.iload_n 2) 1 14 := by decide +kernel
theorem dX10_bestFrom_14 : am_at cX10_bestFrom 14 (.ishl) 1 15 := by decide +kernel
theorem dX10_bestFrom_15 : am_at cX10_bestFrom 15 (.iconst (-1)) 1 16 := by decide +kernel
theorem dX10_bestFrom_16 : am_at cX10_bestFrom 16 (.ixor) 1 17 := by decide +kernel
theorem dX10_bestFrom_17 : am_at cX10_bestFrom 17 (.iand) 1 18 := by decide +kernel
theorem dX10_bestFrom_18 : am_at cX10_bestFrom 18 (.istore_n 3) 1 19 := by decide +kernel
theorem dX10_bestFrom_19 : am_at cX10_bestFrom 19 (.aload_n 0) 1 20 := by decide +kernel
theorem dX10_bestFrom_20 : am_at cX10_bestFrom 20 (.getfield 22) 3 23 := by decide +kernel
theorem dX10_bestFrom_23 : am_at cX10_bestFrom 23 (.iload_n 3) 1 24 := by decide +kernel
theorem dX10_bestFrom_24 : am_at cX10_bestFrom 24 (.iaload) 1 25 := by decide +kernel
theorem dX10_bestFrom_25 : am_at cX10_bestFrom 25 (.istore 4) 2 27 := by decide +kernel
theorem dX10_bestFrom_27 : am_at cX10_bestFrom 27 (.iload_n 2) 1 28 := by decide +kernel
theorem dX10_bestFrom_28 : am_at cX10_bestFrom 28 (.iconst 1) 1 29 := by decide +kernel
theorem dX10_bestFrom_29 : am_at cX10_bestFrom 29 (.iadd) 1 30 := by decide +kernel
theorem dX10_bestFrom_30 : am_at cX10_bestFrom 30 (.istore 5) 2 32 := by decide +kernel
theorem dX10_bestFrom_32 : am_at cX10_bestFrom 32 (.iload 5) 2 34 := by decide +kernel
theorem dX10_bestFrom_34 : am_at cX10_bestFrom 34 (.aload_n 0) 1 35 := by decide +kernel
theorem dX10_bestFrom_35 : am_at cX10_bestFrom 35 (.getfield 9) 3 38 := by decide +kernel
theorem dX10_bestFrom_38 : am_at cX10_bestFrom 38 (.iconst 1) 1 39 := by decide +kernel
theorem dX10_bestFrom_39 : am_at cX10_bestFrom 39 (.iaload) 1 40 := by decide +kernel
theorem dX10_bestFrom_40 : am_at cX10_bestFrom 40 (.if_icmp .ge 78) 3 43 := by decide +kernel
theorem dX10_bestFrom_43 : am_at cX10_bestFrom 43 (.iload_n 3) 1 44 := by decide +kernel
theorem dX10_bestFrom_44 : am_at cX10_bestFrom 44 (.iload 5) 2 46 := by decide +kernel
theorem dX10_bestFrom_46 : am_at cX10_bestFrom 46 (.ishr) 1 47 := by decide +kernel
theorem dX10_bestFrom_47 : am_at cX10_bestFrom 47 (.iconst 1) 1 48 := by decide +kernel
theorem dX10_bestFrom_48 : am_at cX10_bestFrom 48 (.iand) 1 49 := by decide +kernel
theorem dX10_bestFrom_49 : am_at cX10_bestFrom 49 (.iconst 1) 1 50 := by decide +kernel
theorem dX10_bestFrom_50 : am_at cX10_bestFrom 50 (.if_icmp .ne 62) 3 53 := by decide +kernel
theorem dX10_bestFrom_53 : am_at cX10_bestFrom 53 (.aload_n 0) 1 54 := by decide +kernel
theorem dX10_bestFrom_54 : am_at cX10_bestFrom 54 (.getfield 19) 3 57 := by decide +kernel
theorem dX10_bestFrom_57 : am_at cX10_bestFrom 57 (.bipush 10) 2 59 := by decide +kernel
theorem dX10_bestFrom_59 : am_at cX10_bestFrom 59 (.iload_n 2) 1 60 := by decide +kernel
theorem dX10_bestFrom_60 : am_at cX10_bestFrom 60 (.imul) 1 61 := by decide +kernel
theorem dX10_bestFrom_61 : am_at cX10_bestFrom 61 (.iload 5) 2 63 := by decide +kernel
theorem dX10_bestFrom_63 : am_at cX10_bestFrom 63 (.iadd) 1 64 := by decide +kernel
theorem dX10_bestFrom_64 : am_at cX10_bestFrom 64 (.iaload) 1 65 := by decide +kernel
theorem dX10_bestFrom_65 : am_at cX10_bestFrom 65 (.ifCond .lt 47) 3 68 := by decide +kernel
theorem dX10_bestFrom_68 : am_at cX10_bestFrom 68 (.aload_n 0) 1 69 := by decide +kernel
theorem dX10_bestFrom_69 : am_at cX10_bestFrom 69 (.getfield 19) 3 72 := by decide +kernel
theorem dX10_bestFrom_72 : am_at cX10_bestFrom 72 (.bipush 10) 2 74 := by decide +kernel
theorem dX10_bestFrom_74 : am_at cX10_bestFrom 74 (.iload_n 2) 1 75 := by decide +kernel
theorem dX10_bestFrom_75 : am_at cX10_bestFrom 75 (.imul) 1 76 := by decide +kernel
theorem dX10_bestFrom_76 : am_at cX10_bestFrom 76 (.iload 5) 2 78 := by decide +kernel
theorem dX10_bestFrom_78 : am_at cX10_bestFrom 78 (.iadd) 1 79 := by decide +kernel
theorem dX10_bestFrom_79 : am_at cX10_bestFrom 79 (.iaload) 1 80 := by decide +kernel
theorem dX10_bestFrom_80 : am_at cX10_bestFrom 80 (.aload_n 0) 1 81 := by decide +kernel
theorem dX10_bestFrom_81 : am_at cX10_bestFrom 81 (.getfield 22) 3 84 := by decide +kernel
theorem dX10_bestFrom_84 : am_at cX10_bestFrom 84 (.iload_n 3) 1 85 := by decide +kernel
theorem dX10_bestFrom_85 : am_at cX10_bestFrom 85 (.iconst 1) 1 86 := by decide +kernel
theorem dX10_bestFrom_86 : am_at cX10_bestFrom 86 (.iload 5) 2 88 := by decide +kernel
theorem dX10_bestFrom_88 : am_at cX10_bestFrom 88 (.ishl) 1 89 := by decide +kernel
theorem dX10_bestFrom_89 : am_at cX10_bestFrom 89 (.iconst (-1)) 1 90 := by decide +kernel
theorem dX10_bestFrom_90 : am_at cX10_bestFrom 90 (.ixor) 1 91 := by decide +kernel
theorem dX10_bestFrom_91 : am_at cX10_bestFrom 91 (.iand) 1 92 := by decide +kernel
theorem dX10_bestFrom_92 : am_at cX10_bestFrom 92 (.iaload) 1 93 := by decide +kernel
theorem dX10_bestFrom_93 : am_at cX10_bestFrom 93 (.iadd) 1 94 := by decide +kernel
theorem dX10_bestFrom_94 : am_at cX10_bestFrom 94 (.istore 6) 2 96 := by decide +kernel
theorem dX10_bestFrom_96 : am_at cX10_bestFrom 96 (.iload 6) 2 98 := by decide +kernel
theorem dX10_bestFrom_98 : am_at cX10_bestFrom 98 (.iload 4) 2 100 := by decide +kernel
theorem dX10_bestFrom_100 : am_at cX10_bestFrom 100 (.if_icmp .le 8) 3 103 := by decide +kernel
theorem dX10_bestFrom_103 : am_at cX10_bestFrom 103 (.iload 6) 2 105 := by decide +kernel
theorem dX10_bestFrom_105 : am_at cX10_bestFrom 105 (.goto 5) 3 108 := by decide +kernel
theorem dX10_bestFrom_108 : am_at cX10_bestFrom 108 (.iload 4) 2 110 := by decide +kernel
theorem dX10_bestFrom_110 : am_at cX10_bestFrom 110 (.istore 4) 2 112 := by decide +kernel
theorem dX10_bestFrom_112 : am_at cX10_bestFrom 112 (.iinc 5 1) 3 115 := by decide +kernel
theorem dX10_bestFrom_115 : am_at cX10_bestFrom 115 (.goto (-83)) 3 118 := by decide +kernel
theorem dX10_bestFrom_118 : am_at cX10_bestFrom 118 (.iload 4) 2 120 := by decide +kernel
theorem dX10_bestFrom_120 : am_at cX10_bestFrom 120 (.ireturn) 1 121 := by decide +kernel
def fxX10_bestFrom_b112 (k32 : Option Nat → Int32 → Int32 → Int32 → Int32 → am_H → Option (Int32 × am_H)) (l0 : Option Nat) (l2 : Int32) (l3 : Int32) (l4 : Int32) (l5 : Int32) (h : am_H) : Option (Int32 × am_H) := am_lt (l5 + 1) (fun x13 => k32 l0 l2 l3 l4 x13 h)
set_option maxRecDepth 100000 in
theorem sxX10_bestFrom_b112 {xs : List Int32} (k32 : Option Nat → Int32 → Int32 → Int32 → Int32 → am_H → Option (Int32 × am_H)) (hk32 : ∀ (l0 : Option Nat) (l2 : Int32) (l3 : Int32) (l4 : Int32) (l5 : Int32) (h : am_H), am_Sm xs am_ci mX10_bestFrom 1 0 0 32 [some (am_R l0), none, some (am_I l2), some (am_I l3), some (am_I l4), some (am_I l5), none] [] h (k32 l0 l2 l3 l4 l5 h)) (l0 : Option Nat) (l2 : Int32) (l3 : Int32) (l4 : Int32) (l5 : Int32) (h : am_H) : am_Sm xs am_ci mX10_bestFrom 1 0 0 112 [some (am_R l0), none, some (am_I l2), some (am_I l3), some (am_I l4), some (am_I l5), none] [] h (fxX10_bestFrom_b112 k32 l0 l2 l3 l4 l5 h) := by
  unfold fxX10_bestFrom_b112
  refine am_iinc (v := 1) (LL := fun y9 => [some (am_R l0), none, some (am_I l2), some (am_I l3), some (am_I l4), some (am_I y9), none]) dX10_bestFrom_112 (by decide) rfl (by decide) (fun _ => rfl) (fun x13 => ?_)
  refine am_goto (tgt := 32) dX10_bestFrom_115 (by decide) ?_
  exact am_weak (hk32 l0 l2 l3 l4 x13 h) ⟨rfl, ⟨rfl, ⟨rfl, ⟨rfl, ⟨rfl, trivial⟩⟩⟩⟩⟩ (Nat.le_refl _) (Nat.le_refl _)
def fxX10_bestFrom_b110 (k32 : Option Nat → Int32 → Int32 → Int32 → Int32 → am_H → Option (Int32 × am_H)) (l0 : Option Nat) (l2 : Int32) (l3 : Int32) (l5 : Int32) (s0 : Int32) (h : am_H) : Option (Int32 × am_H) := am_lt s0 (fun x14 => fxX10_bestFrom_b112 k32 l0 l2 l3 x14 l5 h)
set_option maxRecDepth 100000 in
theorem sxX10_bestFrom_b110 {xs : List Int32} (k32 : Option Nat → Int32 → Int32 → Int32 → Int32 → am_H → Option (Int32 × am_H)) (hk32 : ∀ (l0 : Option Nat) (l2 : Int32) (l3 : Int32) (l4 : Int32) (l5 : Int32) (h : am_H), am_Sm xs am_ci mX10_bestFrom 1 0 0 32 [some (am_R l0), none, some (am_I l2), some (am_I l3), some (am_I l4), some (am_I l5), none] [] h (k32 l0 l2 l3 l4 l5 h)) (l0 : Option Nat) (l2 : Int32) (l3 : Int32) (l5 : Int32) (s0 : Int32) (h : am_H) : am_Sm xs am_ci mX10_bestFrom 1 0 0 110 [some (am_R l0), none, some (am_I l2), some (am_I l3), none, some (am_I l5), none] [am_I s0] h (fxX10_bestFrom_b110 k32 l0 l2 l3 l5 s0 h) := by
  unfold fxX10_bestFrom_b110
  refine am_istore (LL := fun y9 => [some (am_R l0), none, some (am_I l2), some (am_I l3), some (am_I y9), some (am_I l5), none]) dX10_bestFrom_110 (by decide) (fun _ => rfl) (fun x14 => ?_)
  exact am_weak (sxX10_bestFrom_b112 k32 hk32 l0 l2 l3 x14 l5 h) ⟨rfl, ⟨rfl, ⟨rfl, ⟨rfl, ⟨rfl, trivial⟩⟩⟩⟩⟩ (Nat.le_refl _) (Nat.le_refl _)
def fxX10_bestFrom_b32 : Nat → Option Nat → Int32 → Int32 → Int32 → Int32 → am_H → Option (Int32 × am_H)
  | 0, _, _, _, _, _, _ => none
  | n + 1, l0, l2, l3, l4, l5, h => am_gd (am_ob h l0 10) (am_gd (am_ix h (am_gr h l0 0) 0 (1 : Int32)) (if (am_gi h (am_gr h l0 0) (1 : Int32).toNatClampNeg) ≤ l5 then (some (l4, h)) else (if ((l3 >>> (l5 &&& 31)) &&& (1 : Int32)) = (1 : Int32) then (am_gd (am_ob h l0 10) (am_gd (am_ix h (am_gr h l0 4) 0 (((10 : Int32) * l2) + l5)) (if (am_gi h (am_gr h l0 4) (((10 : Int32) * l2) + l5).toNatClampNeg) < 0 then (fxX10_bestFrom_b112 (fxX10_bestFrom_b32 n) l0 l2 l3 l4 l5 h) else (am_gd (am_ob h l0 10) (am_gd (am_ix h (am_gr h l0 4) 0 (((10 : Int32) * l2) + l5)) (am_gd (am_ob h l0 10) (am_gd (am_ix h (am_gr h l0 5) 0 (l3 &&& (((1 : Int32) <<< (l5 &&& 31)) ^^^ (-1 : Int32)))) (am_lt ((am_gi h (am_gr h l0 4) (((10 : Int32) * l2) + l5).toNatClampNeg) + (am_gi h (am_gr h l0 5) (l3 &&& (((1 : Int32) <<< (l5 &&& 31)) ^^^ (-1 : Int32))).toNatClampNeg)) (fun x8 => if x8 ≤ l4 then (fxX10_bestFrom_b110 (fxX10_bestFrom_b32 n) l0 l2 l3 l5 l4 h) else (fxX10_bestFrom_b110 (fxX10_bestFrom_b32 n) l0 l2 l3 l5 x8 h)))))))))) else (fxX10_bestFrom_b112 (fxX10_bestFrom_b32 n) l0 l2 l3 l4 l5 h))))
set_option maxRecDepth 100000 in
theorem sxX10_bestFrom_b32 {xs : List Int32} : ∀ (n : Nat) (l0 : Option Nat) (l2 : Int32) (l3 : Int32) (l4 : Int32) (l5 : Int32) (h : am_H), am_Sm xs am_ci mX10_bestFrom 1 0 0 32 [some (am_R l0), none, some (am_I l2), some (am_I l3), some (am_I l4), some (am_I l5), none] [] h (fxX10_bestFrom_b32 n l0 l2 l3 l4 l5 h) := by
  intro n
  induction n with
  | zero => intros; exact am_none
  | succ n ih =>
    intro l0 l2 l3 l4 l5 h
    rw [fxX10_bestFrom_b32]
    refine am_iload dX10_bestFrom_32 rfl ?_
    refine am_aload_n dX10_bestFrom_34 rfl ?_
    refine am_getR dX10_bestFrom_35 fk_RX10_9 rfl ?_
    refine am_iconst (v := 1) dX10_bestFrom_38 (by decide) ?_
    refine am_iald dX10_bestFrom_39 ?_
    refine am_icmp_ge (tgt := 118) dX10_bestFrom_40 (by decide) (fun c12 => ?_) (fun c12 => ?_)
    · refine am_iload dX10_bestFrom_118 rfl ?_
      exact am_iret dX10_bestFrom_120 rfl rfl
    refine am_iload_n dX10_bestFrom_43 rfl ?_
    refine am_iload dX10_bestFrom_44 rfl ?_
    refine am_ishr dX10_bestFrom_46 ?_
    refine am_iconst (v := 1) dX10_bestFrom_47 (by decide) ?_
    refine am_iand dX10_bestFrom_48 ?_
    refine am_iconst (v := 1) dX10_bestFrom_49 (by decide) ?_
    refine am_icmp_ne (tgt := 112) dX10_bestFrom_50 (by decide) (fun c11 => ?_) (fun c11 => ?_)
    · exact am_weak (sxX10_bestFrom_b112 (fxX10_bestFrom_b32 n) ih l0 l2 l3 l4 l5 h) ⟨rfl, ⟨rfl, ⟨rfl, ⟨rfl, ⟨rfl, trivial⟩⟩⟩⟩⟩ (Nat.le_refl _) (Nat.le_refl _)
    refine am_aload_n dX10_bestFrom_53 rfl ?_
    refine am_getR dX10_bestFrom_54 fk_RX10_19 rfl ?_
    refine am_bipush (v := 10) dX10_bestFrom_57 (by decide) ?_
    refine am_iload_n dX10_bestFrom_59 rfl ?_
    refine am_imul dX10_bestFrom_60 ?_
    refine am_iload dX10_bestFrom_61 rfl ?_
    refine am_iadd dX10_bestFrom_63 ?_
    refine am_iald dX10_bestFrom_64 ?_
    refine am_if_lt (tgt := 112) dX10_bestFrom_65 (by decide) (fun c10 => ?_) (fun c10 => ?_)
    · exact am_weak (sxX10_bestFrom_b112 (fxX10_bestFrom_b32 n) ih l0 l2 l3 l4 l5 h) ⟨rfl, ⟨rfl, ⟨rfl, ⟨rfl, ⟨rfl, trivial⟩⟩⟩⟩⟩ (Nat.le_refl _) (Nat.le_refl _)
    refine am_aload_n dX10_bestFrom_68 rfl ?_
    refine am_getR dX10_bestFrom_69 fk_RX10_19 rfl ?_
    refine am_bipush (v := 10) dX10_bestFrom_72 (by decide) ?_
    refine am_iload_n dX10_bestFrom_74 rfl ?_
    refine am_imul dX10_bestFrom_75 ?_
    refine am_iload dX10_bestFrom_76 rfl ?_
    refine am_iadd dX10_bestFrom_78 ?_
    refine am_iald dX10_bestFrom_79 ?_
    refine am_aload_n dX10_bestFrom_80 rfl ?_
    refine am_getR dX10_bestFrom_81 fk_RX10_22 rfl ?_
    refine am_iload_n dX10_bestFrom_84 rfl ?_
    refine am_iconst (v := 1) dX10_bestFrom_85 (by decide) ?_
    refine am_iload dX10_bestFrom_86 rfl ?_
    refine am_ishl dX10_bestFrom_88 ?_
    refine am_iconst (v := (-1)) dX10_bestFrom_89 (by decide) ?_
    refine am_ixor dX10_bestFrom_90 ?_
    refine am_iand dX10_bestFrom_91 ?_
    refine am_iald dX10_bestFrom_92 ?_
    refine am_iadd dX10_bestFrom_93 ?_
    refine am_istore (LL := fun y9 => [some (am_R l0), none, some (am_I l2), some (am_I l3), some (am_I l4), some (am_I l5), some (am_I y9)]) dX10_bestFrom_94 (by decide) (fun _ => rfl) (fun x8 => ?_)
    refine am_iload dX10_bestFrom_96 rfl ?_
    refine am_iload dX10_bestFrom_98 rfl ?_
    refine am_icmp_le (tgt := 108) dX10_bestFrom_100 (by decide) (fun c9 => ?_) (fun c9 => ?_)
    · refine am_iload dX10_bestFrom_108 rfl ?_
      exact am_weak (sxX10_bestFrom_b110 (fxX10_bestFrom_b32 n) ih l0 l2 l3 l5 l4 h) ⟨rfl, ⟨rfl, ⟨rfl, ⟨rfl, trivial⟩⟩⟩⟩ (Nat.le_refl _) (Nat.le_refl _)
    refine am_iload dX10_bestFrom_103 rfl ?_
    refine am_goto (tgt := 110) dX10_bestFrom_105 (by decide) ?_
    exact am_weak (sxX10_bestFrom_b110 (fxX10_bestFrom_b32 n) ih l0 l2 l3 l5 x8 h) ⟨rfl, ⟨rfl, ⟨rfl, ⟨rfl, trivial⟩⟩⟩⟩ (Nat.le_refl _) (Nat.le_refl _)
def fxX10_bestFrom (l0 : Option Nat) (l1 : Int32) (h : am_H) : Option (Int32 × am_H) := if l1 = 0 then (some ((0 : Int32), h)) else (am_bd (fxX10_firstOf l1 h) (fun r1 h2 => am_lt r1 (fun x3 => am_lt (l1 &&& (((1 : Int32) <<< (x3 &&& 31)) ^^^ (-1 : Int32))) (fun x4 => am_gd (am_ob h2 l0 10) (am_gd (am_ix h2 (am_gr h2 l0 5) 0 x4) (am_lt (am_gi h2 (am_gr h2 l0 5) x4.toNatClampNeg) (fun x5 => am_lt (x3 + (1 : Int32)) (fun x6 => fxX10_bestFrom_b32 am_F l0 x3 x4 x5 x6 h2))))))))
set_option maxRecDepth 100000 in
theorem sxX10_bestFrom {xs : List Int32} (l0 : Option Nat) (l1 : Int32) (h : am_H) : am_Sm xs am_ci mX10_bestFrom 1 0 0 0 [some (am_R l0), some (am_I l1), none, none, none, none, none] [] h (fxX10_bestFrom l0 l1 h) := by
  unfold fxX10_bestFrom
  refine am_iload_n dX10_bestFrom_0 rfl ?_
  refine am_if_ne (tgt := 6) dX10_bestFrom_1 (by decide) (fun c7 => ?_) (fun c7 => ?_)
  · refine am_iload_n dX10_bestFrom_6 rfl ?_
    refine am_callS (cvj := am_ci) (mtj := mX10_firstOf) (dj := 0) (nj := 1) (rcj := 0) (rsj := 0) (rc' := 0) (rs' := 0) (st' := fun a9 => (am_I a9 :: [])) [am_I l1] [] dX10_bestFrom_7 okX10_firstOf lk_RX10_149 (fun zA zH zE => txX10_firstOf l1 h zA zH zE) rfl (fun _ => rfl) (by decide) rfl (Nat.le_of_ble_eq_true rfl) (by decide) (by decide) (fun r1 h2 => ?_)
    refine am_istore_n (LL := fun y9 => [some (am_R l0), some (am_I l1), some (am_I y9), none, none, none, none]) dX10_bestFrom_10 (by decide) (fun _ => rfl) (fun x3 => ?_)
    refine am_iload_n dX10_bestFrom_11 rfl ?_
    refine am_iconst (v := 1) dX10_bestFrom_12 (by decide) ?_
    refine am_iload_n dX10_bestFrom_13 rfl ?_
    refine am_ishl dX10_bestFrom_14 ?_
    refine am_iconst (v := (-1)) dX10_bestFrom_15 (by decide) ?_
    refine am_ixor dX10_bestFrom_16 ?_
    refine am_iand dX10_bestFrom_17 ?_
    refine am_istore_n (LL := fun y9 => [some (am_R l0), some (am_I l1), some (am_I x3), some (am_I y9), none, none, none]) dX10_bestFrom_18 (by decide) (fun _ => rfl) (fun x4 => ?_)
    refine am_aload_n dX10_bestFrom_19 rfl ?_
    refine am_getR dX10_bestFrom_20 fk_RX10_22 rfl ?_
    refine am_iload_n dX10_bestFrom_23 rfl ?_
    refine am_iald dX10_bestFrom_24 ?_
    refine am_istore (LL := fun y9 => [some (am_R l0), some (am_I l1), some (am_I x3), some (am_I x4), some (am_I y9), none, none]) dX10_bestFrom_25 (by decide) (fun _ => rfl) (fun x5 => ?_)
    refine am_iload_n dX10_bestFrom_27 rfl ?_
    refine am_iconst (v := 1) dX10_bestFrom_28 (by decide) ?_
    refine am_iadd dX10_bestFrom_29 ?_
    refine am_istore (LL := fun y9 => [some (am_R l0), some (am_I l1), some (am_I x3), some (am_I x4), some (am_I x5), some (am_I y9), none]) dX10_bestFrom_30 (by decide) (fun _ => rfl) (fun x6 => ?_)
    exact am_weak (sxX10_bestFrom_b32 am_F l0 x3 x4 x5 x6 h2) ⟨rfl, ⟨rfl, ⟨rfl, ⟨rfl, ⟨rfl, trivial⟩⟩⟩⟩⟩ (Nat.le_refl _) (Nat.le_refl _)
  refine am_iconst (v := 0) dX10_bestFrom_4 (by decide) ?_
  exact am_iret dX10_bestFrom_5 rfl rfl
theorem txX10_bestFrom {xs : List Int32} (l0 : Option Nat) (l1 : Int32) (h : am_H) (a : Int32) (h2 : am_H) (e : fxX10_bestFrom l0 l1 h = some (a, h2)) : am_Ct xs mX10_bestFrom 1 0 0 [am_R l0, am_I l1] h (fun v h3 => v = am_ci a ∧ h3 = h2) := am_meth okX10_bestFrom (Nat.le_of_ble_eq_true rfl) rfl (sxX10_bestFrom l0 l1 h) e
theorem dX10_findBests_0 : am_at cX10_findBests 0 (.iconst 0) 1 1 := by decide +kernel
theorem dX10_findBests_1 : am_at cX10_findBests 1 (.istore_n 1) 1 2 := by decide +kernel
theorem dX10_findBests_2 : am_at cX10_findBests 2 (.iload_n 1) 1 3 := by decide +kernel
theorem dX10_findBests_3 : am_at cX10_findBests 3 (.aload_n 0) 1 4 := by decide +kernel
theorem dX10_findBests_4 : am_at cX10_findBests 4 (.getfield 9) 3 7 := by decide +kernel
theorem dX10_findBests_7 : am_at cX10_findBests 7 (.iconst 1) 1 8 := by decide +kernel
theorem dX10_findBests_8 : am_at cX10_findBests 8 (.iaload) 1 9 := by decide +kernel
theorem dX10_findBests_9 : am_at cX10_findBests 9 (.if_icmp .ge 66) 3 12 := by decide +kernel
theorem dX10_findBests_12 : am_at cX10_findBests 12 (.iconst 0) 1 13 := by decide +kernel
theorem dX10_findBests_13 : am_at cX10_findBests 13 (.istore_n 2) 1 14 := by decide +kernel
theorem dX10_findBests_14 : am_at cX10_findBests 14 (.iload_n 2) 1 15 := by decide +kernel
theorem dX10_findBests_15 : am_at cX10_findBests 15 (.iload_n 1) 1 16 := by decide +kernel
theorem dX10_findBests_16 : am_at cX10_findBests 16 (.if_icmp .ge 53) 3 19 := by decide +kernel
theorem dX10_findBests_19 : am_at cX10_findBests 19 (.aload_n 0) 1 20 := by decide +kernel
theorem dX10_findBests_20 : am_at cX10_findBests 20 (.iload_n 1) 1 21 := by decide +kernel
theorem dX10_findBests_21 : am_at cX10_findBests 21 (.iload_n 2) 1 22 := by decide +kernel
theorem dX10_findBests_22 : am_at cX10_findBests 22 (.invokevirtual 135) 3 25 := by decide +kernel
theorem dX10_findBests_25 : am_at cX10_findBests 25 (.ifCond .eq 12) 3 28 := by decide +kernel
theorem dX10_findBests_28 : am_at cX10_findBests 28 (.aload_n 0) 1 29 := by decide +kernel
theorem dX10_findBests_29 : am_at cX10_findBests 29 (.iload_n 1) 1 30 := by decide +kernel
theorem dX10_findBests_30 : am_at cX10_findBests 30 (.iload_n 2) 1 31 := by decide +kernel
theorem dX10_findBests_31 : am_at cX10_findBests 31 (.invokevirtual 138) 3 34 := by decide +kernel
theorem dX10_findBests_34 : am_at cX10_findBests 34 (.goto 4) 3 37 := by decide +kernel
theorem dX10_findBests_37 : am_at cX10_findBests 37 (.iconst (-1)) 1 38 := by decide +kernel
theorem dX10_findBests_38 : am_at cX10_findBests 38 (.istore_n 3) 1 39 := by decide +kernel
theorem dX10_findBests_39 : am_at cX10_findBests 39 (.aload_n 0) 1 40 := by decide +kernel
theorem dX10_findBests_40 : am_at cX10_findBests 40 (.getfield 19) 3 43 := by decide +kernel
theorem dX10_findBests_43 : am_at cX10_findBests 43 (.bipush 10) 2 45 := by decide +kernel
theorem dX10_findBests_45 : am_at cX10_findBests 45 (.iload_n 1) 1 46 := by decide +kernel
theorem dX10_findBests_46 : am_at cX10_findBests 46 (.imul) 1 47 := by decide +kernel
theorem dX10_findBests_47 : am_at cX10_findBests 47 (.iload_n 2) 1 48 := by decide +kernel
theorem dX10_findBests_48 : am_at cX10_findBests 48 (.iadd) 1 49 := by decide +kernel
theorem dX10_findBests_49 : am_at cX10_findBests 49 (.iload_n 3) 1 50 := by decide +kernel
theorem dX10_findBests_50 : am_at cX10_findBests 50 (.iastore) 1 51 := by decide +kernel
theorem dX10_findBests_51 : am_at cX10_findBests 51 (.aload_n 0) 1 52 := by decide +kernel
theorem dX10_findBests_52 : am_at cX10_findBests 52 (.getfield 19) 3 55 := by decide +kernel
theorem dX10_findBests_55 : am_at cX10_findBests 55 (.bipush 10) 2 57 := by decide +kernel
theorem dX10_findBests_57 : am_at cX10_findBests 57 (.iload_n 2) 1 58 := by decide +kernel
theorem dX10_findBests_58 : am_at cX10_findBests 58 (.imul) 1 59 := by decide +kernel
theorem dX10_findBests_59 : am_at cX10_findBests 59 (.iload_n 1) 1 60 := by decide +kernel
theorem dX10_findBests_60 : am_at cX10_findBests 60 (.iadd) 1 61 := by decide +kernel
theorem dX10_findBests_61 : am_at cX10_findBests 61 (.iload_n 3) 1 62 := by decide +kernel
theorem dX10_findBests_62 : am_at cX10_findBests 62 (.iastore) 1 63 := by decide +kernel
theorem dX10_findBests_63 : am_at cX10_findBests 63 (.iinc 2 1) 3 66 := by decide +kernel
theorem dX10_findBests_66 : am_at cX10_findBests 66 (.goto (-52)) 3 69 := by decide +kernel
theorem dX10_findBests_69 : am_at cX10_findBests 69 (.iinc 1 1) 3 72 := by decide +kernel
theorem dX10_findBests_72 : am_at cX10_findBests 72 (.goto (-70)) 3 75 := by decide +kernel
theorem dX10_findBests_75 : am_at cX10_findBests 75 (.iconst 0) 1 76 := by decide +kernel
theorem dX10_findBests_76 : am_at cX10_findBests 76 (.istore_n 1) 1 77 := by decide +kernel
theorem dX10_findBests_77 : am_at cX10_findBests 77 (.iload_n 1) 1 78 := by decide +kernel
theorem dX10_findBests_78 : am_at cX10_findBests 78 (.iconst 1) 1 79 := by decide +kernel
theorem dX10_findBests_79 : am_at cX10_findBests 79 (.aload_n 0) 1 80 := by decide +kernel
theorem dX10_findBests_80 : am_at cX10_findBests 80 (.getfield 9) 3 83 := by decide +kernel
theorem dX10_findBests_83 : am_at cX10_findBests 83 (.iconst 1) 1 84 := by decide +kernel
theorem dX10_findBests_84 : am_at cX10_findBests 84 (.iaload) 1 85 := by decide +kernel
theorem dX10_findBests_85 : am_at cX10_findBests 85 (.ishl) 1 86 := by decide +kernel
theorem dX10_findBests_86 : am_at cX10_findBests 86 (.if_icmp .ge 20) 3 89 := by decide +kernel
theorem dX10_findBests_89 : am_at cX10_findBests 89 (.aload_n 0) 1 90 := by decide +kernel
theorem dX10_findBests_90 : am_at cX10_findBests 90 (.getfield 22) 3 93 := by decide +kernel
theorem dX10_findBests_93 : am_at cX10_findBests 93 (.iload_n 1) 1 94 := by decide +kernel
theorem dX10_findBests_94 : am_at cX10_findBests 94 (.aload_n 0) 1 95 := by decide +kernel
theorem dX10_findBests_95 : am_at cX10_findBests 95 (.iload_n 1) 1 96 := by decide +kernel
theorem dX10_findBests_96 : am_at cX10_findBests 96 (.invokevirtual 146) 3 99 := by decide +kernel
theorem dX10_findBests_99 : am_at cX10_findBests 99 (.iastore) 1 100 := by decide +kernel
theorem dX10_findBests_100 : am_at cX10_findBests 100 (.iinc 1 1) 3 103 := by decide +kernel
theorem dX10_findBests_103 : am_at cX10_findBests 103 (.goto (-26)) 3 106 := by decide +kernel
theorem dX10_findBests_106 : am_at cX10_findBests 106 (.return_) 1 107 := by decide +kernel
def fxX10_findBests_b38 (k2 : Option Nat → Int32 → am_H → Option (Unit × am_H)) (k14 : Option Nat → Int32 → Int32 → am_H → Option (Unit × am_H)) (l0 : Option Nat) (l1 : Int32) (l2 : Int32) (s0 : Int32) (h : am_H) : Option (Unit × am_H) := am_lt s0 (fun x17 => am_gd (am_ob h l0 10) (am_gd (am_ix h (am_gr h l0 4) 0 (((10 : Int32) * l1) + l2)) (am_lt (am_si h (am_gr h l0 4) (((10 : Int32) * l1) + l2).toNatClampNeg x17) (fun h18 => am_gd (am_ob h18 l0 10) (am_gd (am_ix h18 (am_gr h18 l0 4) 0 (((10 : Int32) * l2) + l1)) (am_lt (am_si h18 (am_gr h18 l0 4) (((10 : Int32) * l2) + l1).toNatClampNeg x17) (fun h19 => am_lt (l2 + 1) (fun x20 => k14 l0 l1 x20 h19))))))))
set_option maxRecDepth 100000 in
theorem sxX10_findBests_b38 {xs : List Int32} (k2 : Option Nat → Int32 → am_H → Option (Unit × am_H)) (hk2 : ∀ (l0 : Option Nat) (l1 : Int32) (h : am_H), am_Sm xs am_cu mX10_findBests 3 0 0 2 [some (am_R l0), some (am_I l1), none, none] [] h (k2 l0 l1 h)) (k14 : Option Nat → Int32 → Int32 → am_H → Option (Unit × am_H)) (hk14 : ∀ (l0 : Option Nat) (l1 : Int32) (l2 : Int32) (h : am_H), am_Sm xs am_cu mX10_findBests 3 0 0 14 [some (am_R l0), some (am_I l1), some (am_I l2), none] [] h (k14 l0 l1 l2 h)) (l0 : Option Nat) (l1 : Int32) (l2 : Int32) (s0 : Int32) (h : am_H) : am_Sm xs am_cu mX10_findBests 3 0 0 38 [some (am_R l0), some (am_I l1), some (am_I l2), none] [am_I s0] h (fxX10_findBests_b38 k2 k14 l0 l1 l2 s0 h) := by
  unfold fxX10_findBests_b38
  refine am_istore_n (LL := fun y9 => [some (am_R l0), some (am_I l1), some (am_I l2), some (am_I y9)]) dX10_findBests_38 (by decide) (fun _ => rfl) (fun x17 => ?_)
  refine am_aload_n dX10_findBests_39 rfl ?_
  refine am_getR dX10_findBests_40 fk_RX10_19 rfl ?_
  refine am_bipush (v := 10) dX10_findBests_43 (by decide) ?_
  refine am_iload_n dX10_findBests_45 rfl ?_
  refine am_imul dX10_findBests_46 ?_
  refine am_iload_n dX10_findBests_47 rfl ?_
  refine am_iadd dX10_findBests_48 ?_
  refine am_iload_n dX10_findBests_49 rfl ?_
  refine am_iast dX10_findBests_50 (fun h18 => ?_)
  refine am_aload_n dX10_findBests_51 rfl ?_
  refine am_getR dX10_findBests_52 fk_RX10_19 rfl ?_
  refine am_bipush (v := 10) dX10_findBests_55 (by decide) ?_
  refine am_iload_n dX10_findBests_57 rfl ?_
  refine am_imul dX10_findBests_58 ?_
  refine am_iload_n dX10_findBests_59 rfl ?_
  refine am_iadd dX10_findBests_60 ?_
  refine am_iload_n dX10_findBests_61 rfl ?_
  refine am_iast dX10_findBests_62 (fun h19 => ?_)
  refine am_iinc (v := 1) (LL := fun y9 => [some (am_R l0), some (am_I l1), some (am_I y9), some (am_I x17)]) dX10_findBests_63 (by decide) rfl (by decide) (fun _ => rfl) (fun x20 => ?_)
  refine am_goto (tgt := 14) dX10_findBests_66 (by decide) ?_
  exact am_weak (hk14 l0 l1 x20 h19) ⟨rfl, ⟨rfl, ⟨rfl, trivial⟩⟩⟩ (Nat.le_refl _) (Nat.le_refl _)
def fxX10_findBests_b14 (k2 : Option Nat → Int32 → am_H → Option (Unit × am_H)) : Nat → Option Nat → Int32 → Int32 → am_H → Option (Unit × am_H)
  | 0, _, _, _, _ => none
  | n + 1, l0, l1, l2, h => if l1 ≤ l2 then (am_lt (l1 + 1) (fun x10 => k2 l0 x10 h)) else (am_gd (am_ob h l0 10) (am_bd (fxX10_isPair l0 l1 l2 h) (fun r11 h12 => if r11 = 0 then (fxX10_findBests_b38 k2 (fxX10_findBests_b14 k2 n) l0 l1 l2 (-1 : Int32) h12) else (am_gd (am_ob h12 l0 10) (am_bd (fxX10_valueOf l0 l1 l2 h12) (fun r13 h14 => fxX10_findBests_b38 k2 (fxX10_findBests_b14 k2 n) l0 l1 l2 r13 h14))))))
set_option maxRecDepth 100000 in
theorem sxX10_findBests_b14 {xs : List Int32} (k2 : Option Nat → Int32 → am_H → Option (Unit × am_H)) (hk2 : ∀ (l0 : Option Nat) (l1 : Int32) (h : am_H), am_Sm xs am_cu mX10_findBests 3 0 0 2 [some (am_R l0), some (am_I l1), none, none] [] h (k2 l0 l1 h)) : ∀ (n : Nat) (l0 : Option Nat) (l1 : Int32) (l2 : Int32) (h : am_H), am_Sm xs am_cu mX10_findBests 3 0 0 14 [some (am_R l0), some (am_I l1), some (am_I l2), none] [] h (fxX10_findBests_b14 k2 n l0 l1 l2 h) := by
  intro n
  induction n with
  | zero => intros; exact am_none
  | succ n ih =>
    intro l0 l1 l2 h
    rw [fxX10_findBests_b14]
    refine am_iload_n dX10_findBests_14 rfl ?_
    refine am_iload_n dX10_findBests_15 rfl ?_
    refine am_icmp_ge (tgt := 69) dX10_findBests_16 (by decide) (fun c16 => ?_) (fun c16 => ?_)
    · refine am_iinc (v := 1) (LL := fun y9 => [some (am_R l0), some (am_I y9), some (am_I l2), none]) dX10_findBests_69 (by decide) rfl (by decide) (fun _ => rfl) (fun x10 => ?_)
      refine am_goto (tgt := 2) dX10_findBests_72 (by decide) ?_
      exact am_weak (hk2 l0 x10 h) ⟨rfl, ⟨rfl, trivial⟩⟩ (Nat.le_refl _) (Nat.le_refl _)
    refine am_aload_n dX10_findBests_19 rfl ?_
    refine am_iload_n dX10_findBests_20 rfl ?_
    refine am_iload_n dX10_findBests_21 rfl ?_
    refine am_callV (cvj := am_ci) (mtj := mX10_isPair) (dj := 2) (nj := 2) (rcj := 0) (rsj := 0) (rc' := 0) (rs' := 0) (ci := 10) (st' := fun a9 => (am_I a9 :: [])) ⟨_, rfl, rfl⟩ [am_I l1, am_I l2] [] dX10_findBests_22 okX10_isPair lk_RX10_135 (fun zA zH zE => txX10_isPair l0 l1 l2 h zA zH zE) rfl (fun _ => rfl) (by decide) rfl (Nat.le_of_ble_eq_true rfl) (by decide) (by decide) (fun r11 h12 => ?_)
    refine am_if_eq (tgt := 37) dX10_findBests_25 (by decide) (fun c15 => ?_) (fun c15 => ?_)
    · refine am_iconst (v := (-1)) dX10_findBests_37 (by decide) ?_
      exact am_weak (sxX10_findBests_b38 k2 hk2 (fxX10_findBests_b14 k2 n) ih l0 l1 l2 (-1 : Int32) h12) ⟨rfl, ⟨rfl, ⟨rfl, trivial⟩⟩⟩ (Nat.le_refl _) (Nat.le_refl _)
    refine am_aload_n dX10_findBests_28 rfl ?_
    refine am_iload_n dX10_findBests_29 rfl ?_
    refine am_iload_n dX10_findBests_30 rfl ?_
    refine am_callV (cvj := am_ci) (mtj := mX10_valueOf) (dj := 2) (nj := 2) (rcj := 0) (rsj := 0) (rc' := 0) (rs' := 0) (ci := 10) (st' := fun a9 => (am_I a9 :: [])) ⟨_, rfl, rfl⟩ [am_I l1, am_I l2] [] dX10_findBests_31 okX10_valueOf lk_RX10_138 (fun zA zH zE => txX10_valueOf l0 l1 l2 h12 zA zH zE) rfl (fun _ => rfl) (by decide) rfl (Nat.le_of_ble_eq_true rfl) (by decide) (by decide) (fun r13 h14 => ?_)
    refine am_goto (tgt := 38) dX10_findBests_34 (by decide) ?_
    exact am_weak (sxX10_findBests_b38 k2 hk2 (fxX10_findBests_b14 k2 n) ih l0 l1 l2 r13 h14) ⟨rfl, ⟨rfl, ⟨rfl, trivial⟩⟩⟩ (Nat.le_refl _) (Nat.le_refl _)
def fxX10_findBests_b77 : Nat → Option Nat → Int32 → am_H → Option (Unit × am_H)
  | 0, _, _, _ => none
  | n + 1, l0, l1, h => am_gd (am_ob h l0 10) (am_gd (am_ix h (am_gr h l0 0) 0 (1 : Int32)) (if ((1 : Int32) <<< ((am_gi h (am_gr h l0 0) (1 : Int32).toNatClampNeg) &&& 31)) ≤ l1 then (some ((), h)) else (am_gd (am_ob h l0 10) (am_gd (am_ob h l0 10) (am_bd (fxX10_bestFrom l0 l1 h) (fun r5 h6 => am_gd (am_ix h6 (am_gr h l0 5) 0 l1) (am_lt (am_si h6 (am_gr h l0 5) l1.toNatClampNeg r5) (fun h7 => am_lt (l1 + 1) (fun x8 => fxX10_findBests_b77 n l0 x8 h7)))))))))
set_option maxRecDepth 100000 in
theorem sxX10_findBests_b77 {xs : List Int32} : ∀ (n : Nat) (l0 : Option Nat) (l1 : Int32) (h : am_H), am_Sm xs am_cu mX10_findBests 3 0 0 77 [some (am_R l0), some (am_I l1), none, none] [] h (fxX10_findBests_b77 n l0 l1 h) := by
  intro n
  induction n with
  | zero => intros; exact am_none
  | succ n ih =>
    intro l0 l1 h
    rw [fxX10_findBests_b77]
    refine am_iload_n dX10_findBests_77 rfl ?_
    refine am_iconst (v := 1) dX10_findBests_78 (by decide) ?_
    refine am_aload_n dX10_findBests_79 rfl ?_
    refine am_getR dX10_findBests_80 fk_RX10_9 rfl ?_
    refine am_iconst (v := 1) dX10_findBests_83 (by decide) ?_
    refine am_iald dX10_findBests_84 ?_
    refine am_ishl dX10_findBests_85 ?_
    refine am_icmp_ge (tgt := 106) dX10_findBests_86 (by decide) (fun c9 => ?_) (fun c9 => ?_)
    · exact am_vret dX10_findBests_106 rfl rfl
    refine am_aload_n dX10_findBests_89 rfl ?_
    refine am_getR dX10_findBests_90 fk_RX10_22 rfl ?_
    refine am_iload_n dX10_findBests_93 rfl ?_
    refine am_aload_n dX10_findBests_94 rfl ?_
    refine am_iload_n dX10_findBests_95 rfl ?_
    refine am_callV (cvj := am_ci) (mtj := mX10_bestFrom) (dj := 1) (nj := 1) (rcj := 0) (rsj := 0) (rc' := 0) (rs' := 0) (ci := 10) (st' := fun a9 => (am_I a9 :: [am_I l1, am_R (am_gr h l0 5)])) ⟨_, rfl, rfl⟩ [am_I l1] [am_I l1, am_R (am_gr h l0 5)] dX10_findBests_96 okX10_bestFrom lk_RX10_146 (fun zA zH zE => txX10_bestFrom l0 l1 h zA zH zE) rfl (fun _ => rfl) (by decide) rfl (Nat.le_of_ble_eq_true rfl) (by decide) (by decide) (fun r5 h6 => ?_)
    refine am_iast dX10_findBests_99 (fun h7 => ?_)
    refine am_iinc (v := 1) (LL := fun y9 => [some (am_R l0), some (am_I y9), none, none]) dX10_findBests_100 (by decide) rfl (by decide) (fun _ => rfl) (fun x8 => ?_)
    refine am_goto (tgt := 77) dX10_findBests_103 (by decide) ?_
    exact am_weak (ih l0 x8 h7) ⟨rfl, ⟨rfl, trivial⟩⟩ (Nat.le_refl _) (Nat.le_refl _)
def fxX10_findBests_b2 : Nat → Option Nat → Int32 → am_H → Option (Unit × am_H)
  | 0, _, _, _ => none
  | n + 1, l0, l1, h => am_gd (am_ob h l0 10) (am_gd (am_ix h (am_gr h l0 0) 0 (1 : Int32)) (if (am_gi h (am_gr h l0 0) (1 : Int32).toNatClampNeg) ≤ l1 then (am_lt (0 : Int32) (fun x2 => fxX10_findBests_b77 am_F l0 x2 h)) else (am_lt (0 : Int32) (fun x3 => fxX10_findBests_b14 (fxX10_findBests_b2 n) am_F l0 l1 x3 h))))
set_option maxRecDepth 100000 in
theorem sxX10_findBests_b2 {xs : List Int32} : ∀ (n : Nat) (l0 : Option Nat) (l1 : Int32) (h : am_H), am_Sm xs am_cu mX10_findBests 3 0 0 2 [some (am_R l0), some (am_I l1), none, none] [] h (fxX10_findBests_b2 n l0 l1 h) := by
  intro n
  induction n with
  | zero => intros; exact am_none
  | succ n ih =>
    intro l0 l1 h
    rw [fxX10_findBests_b2]
    refine am_iload_n dX10_findBests_2 rfl ?_
    refine am_aload_n dX10_findBests_3 rfl ?_
    refine am_getR dX10_findBests_4 fk_RX10_9 rfl ?_
    refine am_iconst (v := 1) dX10_findBests_7 (by decide) ?_
    refine am_iald dX10_findBests_8 ?_
    refine am_icmp_ge (tgt := 75) dX10_findBests_9 (by decide) (fun c4 => ?_) (fun c4 => ?_)
    · refine am_iconst (v := 0) dX10_findBests_75 (by decide) ?_
      refine am_istore_n (LL := fun y9 => [some (am_R l0), some (am_I y9), none, none]) dX10_findBests_76 (by decide) (fun _ => rfl) (fun x2 => ?_)
      exact am_weak (sxX10_findBests_b77 am_F l0 x2 h) ⟨rfl, ⟨rfl, trivial⟩⟩ (Nat.le_refl _) (Nat.le_refl _)
    refine am_iconst (v := 0) dX10_findBests_12 (by decide) ?_
    refine am_istore_n (LL := fun y9 => [some (am_R l0), some (am_I l1), some (am_I y9), none]) dX10_findBests_13 (by decide) (fun _ => rfl) (fun x3 => ?_)
    exact am_weak (sxX10_findBests_b14 (fxX10_findBests_b2 n) ih am_F l0 l1 x3 h) ⟨rfl, ⟨rfl, ⟨rfl, trivial⟩⟩⟩ (Nat.le_refl _) (Nat.le_refl _)
def fxX10_findBests (l0 : Option Nat) (h : am_H) : Option (Unit × am_H) := am_lt (0 : Int32) (fun x1 => fxX10_findBests_b2 am_F l0 x1 h)
set_option maxRecDepth 100000 in
theorem sxX10_findBests {xs : List Int32} (l0 : Option Nat) (h : am_H) : am_Sm xs am_cu mX10_findBests 3 0 0 0 [some (am_R l0), none, none, none] [] h (fxX10_findBests l0 h) := by
  unfold fxX10_findBests
  refine am_iconst (v := 0) dX10_findBests_0 (by decide) ?_
  refine am_istore_n (LL := fun y9 => [some (am_R l0), some (am_I y9), none, none]) dX10_findBests_1 (by decide) (fun _ => rfl) (fun x1 => ?_)
  exact am_weak (sxX10_findBests_b2 am_F l0 x1 h) ⟨rfl, ⟨rfl, trivial⟩⟩ (Nat.le_refl _) (Nat.le_refl _)
theorem txX10_findBests {xs : List Int32} (l0 : Option Nat) (h : am_H) (a : Unit) (h2 : am_H) (e : fxX10_findBests l0 h = some (a, h2)) : am_Ct xs mX10_findBests 3 0 0 [am_R l0] h (fun v h3 => v = am_cu a ∧ h3 = h2) := am_meth okX10_findBests (Nat.le_of_ble_eq_true rfl) rfl (sxX10_findBests l0 h) e
