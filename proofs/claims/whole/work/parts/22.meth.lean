theorem dX10_tell_0 : am_at cX10_tell 0 (.aload_n 0) 1 1 := by decide +kernel
theorem dX10_tell_1 : am_at cX10_tell 1 (.getfield 290) 3 4 := by decide +kernel
theorem dX10_tell_4 : am_at cX10_tell 4 (.bipush 60) 2 6 := by decide +kernel
theorem dX10_tell_6 : am_at cX10_tell 6 (.if_icmp .ne 6) 3 9 := by decide +kernel
theorem dX10_tell_9 : am_at cX10_tell 9 (.ldc 94) 2 11 := by decide +kernel
theorem dX10_tell_11 : am_at cX10_tell 11 (.ireturn) 1 12 := by decide +kernel
theorem dX10_tell_12 : am_at cX10_tell 12 (.aload_n 0) 1 13 := by decide +kernel
theorem dX10_tell_13 : am_at cX10_tell 13 (.getfield 81) 3 16 := by decide +kernel
theorem dX10_tell_16 : am_at cX10_tell 16 (.aload_n 0) 1 17 := by decide +kernel
theorem dX10_tell_17 : am_at cX10_tell 17 (.getfield 290) 3 20 := by decide +kernel
theorem dX10_tell_20 : am_at cX10_tell 20 (.iload_n 1) 1 21 := by decide +kernel
theorem dX10_tell_21 : am_at cX10_tell 21 (.iastore) 1 22 := by decide +kernel
theorem dX10_tell_22 : am_at cX10_tell 22 (.aload_n 0) 1 23 := by decide +kernel
theorem dX10_tell_23 : am_at cX10_tell 23 (.dup) 1 24 := by decide +kernel
theorem dX10_tell_24 : am_at cX10_tell 24 (.getfield 290) 3 27 := by decide +kernel
theorem dX10_tell_27 : am_at cX10_tell 27 (.iconst 1) 1 28 := by decide +kernel
theorem dX10_tell_28 : am_at cX10_tell 28 (.iadd) 1 29 := by decide +kernel
theorem dX10_tell_29 : am_at cX10_tell 29 (.putfield 290) 3 32 := by decide +kernel
theorem dX10_tell_32 : am_at cX10_tell 32 (.aload_n 0) 1 33 := by decide +kernel
theorem dX10_tell_33 : am_at cX10_tell 33 (.getfield 290) 3 36 := by decide +kernel
theorem dX10_tell_36 : am_at cX10_tell 36 (.ireturn) 1 37 := by decide +kernel
def fxX10_tell (l0 : Option Nat) (l1 : Int32) (h : am_H) : Option (Int32 × am_H) := am_gd (am_ob h l0 10) (if (am_gi h l0 35) = (60 : Int32) then (some ((-1000000003 : Int32), h)) else (am_gd (am_ob h l0 10) (am_gd (am_ob h l0 10) (am_gd (am_ix h (am_gr h l0 34) 0 (am_gi h l0 35)) (am_lt (am_si h (am_gr h l0 34) (am_gi h l0 35).toNatClampNeg l1) (fun h1 => am_gd (am_ob h1 l0 10) (am_gd (am_ob h1 l0 10) (am_lt (am_si h1 l0 35 ((am_gi h1 l0 35) + (1 : Int32))) (fun h2 => am_gd (am_ob h2 l0 10) (some ((am_gi h2 l0 35), h2)))))))))))
set_option maxRecDepth 100000 in
theorem sxX10_tell {xs : List Int32} (l0 : Option Nat) (l1 : Int32) (h : am_H) : am_Sm xs am_ci mX10_tell 0 0 0 0 [some (am_R l0), some (am_I l1)] [] h (fxX10_tell l0 l1 h) := by
  unfold fxX10_tell
  refine am_aload_n dX10_tell_0 rfl ?_
  refine am_getI dX10_tell_1 fk_RX10_290 rfl ?_
  refine am_bipush (v := 60) dX10_tell_4 (by decide) ?_
  refine am_icmp_ne (tgt := 12) dX10_tell_6 (by decide) (fun c3 => ?_) (fun c3 => ?_)
  · refine am_aload_n dX10_tell_12 rfl ?_
    refine am_getR dX10_tell_13 fk_RX10_81 rfl ?_
    refine am_aload_n dX10_tell_16 rfl ?_
    refine am_getI dX10_tell_17 fk_RX10_290 rfl ?_
    refine am_iload_n dX10_tell_20 rfl ?_
    refine am_iast dX10_tell_21 (fun h1 => ?_)
    refine am_aload_n dX10_tell_22 rfl ?_
    refine am_dup dX10_tell_23 ?_
    refine am_getI dX10_tell_24 fk_RX10_290 rfl ?_
    refine am_iconst (v := 1) dX10_tell_27 (by decide) ?_
    refine am_iadd dX10_tell_28 ?_
    refine am_putI dX10_tell_29 fk_RX10_290 ⟨_, rfl, Or.inl rfl⟩ rfl (fun h2 => ?_)
    refine am_aload_n dX10_tell_32 rfl ?_
    refine am_getI dX10_tell_33 fk_RX10_290 rfl ?_
    exact am_iret dX10_tell_36 rfl rfl
  refine am_ldc (v := (-1000000003)) dX10_tell_9 wd1061 ?_
  exact am_iret dX10_tell_11 rfl rfl
theorem txX10_tell {xs : List Int32} (l0 : Option Nat) (l1 : Int32) (h : am_H) (a : Int32) (h2 : am_H) (e : fxX10_tell l0 l1 h = some (a, h2)) : am_Ct xs mX10_tell 0 0 0 [am_R l0, am_I l1] h (fun v h3 => v = am_ci a ∧ h3 = h2) := am_meth okX10_tell (Nat.le_of_ble_eq_true rfl) rfl (sxX10_tell l0 l1 h) e
theorem dX10_check_0 : am_at cX10_check 0 (.aload_n 0) 1 1 := by decide +kernel
theorem dX10_check_1 : am_at cX10_check 1 (.getfield 290) 3 4 := by decide +kernel
theorem dX10_check_4 : am_at cX10_check 4 (.istore_n 2) 1 5 := by decide +kernel
theorem dX10_check_5 : am_at cX10_check 5 (.aload_n 0) 1 6 := by decide +kernel
theorem dX10_check_6 : am_at cX10_check 6 (.iconst 0) 1 7 := by decide +kernel
theorem dX10_check_7 : am_at cX10_check 7 (.putfield 290) 3 10 := by decide +kernel
theorem dX10_check_10 : am_at cX10_check 10 (.iload_n 1) 1 11 := by decide +kernel
theorem dX10_check_11 : am_at cX10_check 11 (.iconst 1) 1 12 := by decide +kernel
theorem dX10_check_12 : am_at cX10_check 12 (.bipush 30) 2 14 := by decide +kernel
theorem dX10_check_14 : am_at cX10_check 14 (.invokestatic 85) 3 17 := by decide +kernel
theorem dX10_check_17 : am_at cX10_check 17 (.ifCond .ne 6) 3 20 := by decide +kernel
theorem dX10_check_20 : am_at cX10_check 20 (.ldc 93) 2 22 := by decide +kernel
theorem dX10_check_22 : am_at cX10_check 22 (.ireturn) 1 23 := by decide +kernel
theorem dX10_check_23 : am_at cX10_check 23 (.aload_n 0) 1 24 := by decide +kernel
theorem dX10_check_24 : am_at cX10_check 24 (.getfield 293) 3 27 := by decide +kernel
theorem dX10_check_27 : am_at cX10_check 27 (.ifCond .ne 7) 3 30 := by decide +kernel
theorem dX10_check_30 : am_at cX10_check 30 (.ldc_w 289) 3 33 := by decide +kernel
theorem dX10_check_33 : am_at cX10_check 33 (.ireturn) 1 34 := by decide +kernel
theorem dX10_check_34 : am_at cX10_check 34 (.aload_n 0) 1 35 := by decide +kernel
theorem dX10_check_35 : am_at cX10_check 35 (.getfield 9) 3 38 := by decide +kernel
theorem dX10_check_38 : am_at cX10_check 38 (.aload_n 0) 1 39 := by decide +kernel
theorem dX10_check_39 : am_at cX10_check 39 (.getfield 16) 3 42 := by decide +kernel
theorem dX10_check_42 : am_at cX10_check 42 (.invokestatic 297) 3 45 := by decide +kernel
theorem dX10_check_45 : am_at cX10_check 45 (.aload_n 0) 1 46 := by decide +kernel
theorem dX10_check_46 : am_at cX10_check 46 (.getfield 13) 3 49 := by decide +kernel
theorem dX10_check_49 : am_at cX10_check 49 (.aload_n 0) 1 50 := by decide +kernel
theorem dX10_check_50 : am_at cX10_check 50 (.getfield 9) 3 53 := by decide +kernel
theorem dX10_check_53 : am_at cX10_check 53 (.invokestatic 297) 3 56 := by decide +kernel
theorem dX10_check_56 : am_at cX10_check 56 (.iconst 2) 1 57 := by decide +kernel
theorem dX10_check_57 : am_at cX10_check 57 (.sipush 9999) 3 60 := by decide +kernel
theorem dX10_check_60 : am_at cX10_check 60 (.aload_n 0) 1 61 := by decide +kernel
theorem dX10_check_61 : am_at cX10_check 61 (.getfield 9) 3 64 := by decide +kernel
theorem dX10_check_64 : am_at cX10_check 64 (.iconst 2) 1 65 := by decide +kernel
theorem dX10_check_65 : am_at cX10_check 65 (.iaload) 1 66 := by decide +kernel
theorem dX10_check_66 : am_at cX10_check 66 (.isub) 1 67 := by decide +kernel
theorem dX10_check_67 : am_at cX10_check 67 (.iconst 0) 1 68 := by decide +kernel
theorem dX10_check_68 : am_at cX10_check 68 (.iload_n 1) 1 69 := by decide +kernel
theorem dX10_check_69 : am_at cX10_check 69 (.invokestatic 128) 3 72 := by decide +kernel
theorem dX10_check_72 : am_at cX10_check 72 (.imul) 1 73 := by decide +kernel
theorem dX10_check_73 : am_at cX10_check 73 (.istore_n 3) 1 74 := by decide +kernel
theorem dX10_check_74 : am_at cX10_check 74 (.iconst 0) 1 75 := by decide +kernel
theorem dX10_check_75 : am_at cX10_check 75 (.istore 4) 2 77 := by decide +kernel
theorem dX10_check_77 : am_at cX10_check 77 (.iconst 0) 1 78 := by decide +kernel
theorem dX10_check_78 : am_at cX10_check 78 (.istore 5) 2 80 := by decide +kernel
theorem dX10_check_80 : am_at cX10_check 80 (.iconst 2) 1 81 := by decide +kernel
theorem dX10_check_81 : am_at cX10_check 81 (.iload 5) 2 83 := by decide +kernel
theorem dX10_check_83 : am_at cX10_check 83 (.imul) 1 84 := by decide +kernel
theorem dX10_check_84 : am_at cX10_check 84 (.iload_n 3) 1 85 := by decide +kernel
theorem dX10_check_85 : am_at cX10_check 85 (.if_icmp .ge 96) 3 88 := by decide +kernel
theorem dX10_check_88 : am_at cX10_check 88 (.iload 4) 2 90 := by decide +kernel
theorem dX10_check_90 : am_at cX10_check 90 (.iconst 2) 1 91 := by decide +kernel
theorem dX10_check_91 : am_at cX10_check 91 (.iload 5) 2 93 := by decide +kernel
theorem dX10_check_93 : am_at cX10_check 93 (.imul) 1 94 := by decide +kernel
theorem dX10_check_94 : am_at cX10_check 94 (.if_icmp .ne 87) 3 97 := by decide +kernel
theorem dX10_check_97 : am_at cX10_check 97 (.aload_n 0) 1 98 := by decide +kernel
theorem dX10_check_98 : am_at cX10_check 98 (.iconst (-1)) 1 99 := by decide +kernel
theorem dX10_check_99 : am_at cX10_check 99 (.invokevirtual 177) 3 102 := by decide +kernel
theorem dX10_check_102 : am_at cX10_check 102 (.istore 6) 2 104 := by decide +kernel
theorem dX10_check_104 : am_at cX10_check 104 (.iload 4) 2 106 := by decide +kernel
theorem dX10_check_106 : am_at cX10_check 106 (.iload 4) 2 108 := by decide +kernel
theorem dX10_check_108 : am_at cX10_check 108 (.iload_n 2) 1 109 := by decide +kernel
theorem dX10_check_109 : am_at cX10_check 109 (.if_icmp .ge 21) 3 112 := by decide +kernel
theorem dX10_check_112 : am_at cX10_check 112 (.aload_n 0) 1 113 := by decide +kernel
theorem dX10_check_113 : am_at cX10_check 113 (.getfield 81) 3 116 := by decide +kernel
theorem dX10_check_116 : am_at cX10_check 116 (.iload 4) 2 118 := by decide +kernel
theorem dX10_check_118 : am_at cX10_check 118 (.iaload) 1 119 := by decide +kernel
theorem dX10_check_119 : am_at cX10_check 119 (.aload_n 0) 1 120 := by decide +kernel
theorem dX10_check_120 : am_at cX10_check 120 (.invokevirtual 189) 3 123 := by decide +kernel
theorem dX10_check_123 : am_at cX10_check 123 (.if_icmp .ne 7) 3 126 := by decide +kernel
theorem dX10_check_126 : am_at cX10_check 126 (.iconst 1) 1 127 := by decide +kernel
theorem dX10_check_127 : am_at cX10_check 127 (.goto 4) 3 130 := by decide +kernel
theorem dX10_check_130 : am_at cX10_check 130 (.iconst 0) 1 131 := by decide +kernel
theorem dX10_check_131 : am_at cX10_check 131 (.iadd) 1 132 := by decide +kernel
theorem dX10_check_132 : am_at cX10_check 132 (.istore 4) 2 134 := by decide +kernel
theorem dX10_check_134 : am_at cX10_check 134 (.iload 4) 2 136 := by decide +kernel
theorem dX10_check_136 : am_at cX10_check 136 (.iload 4) 2 138 := by decide +kernel
theorem dX10_check_138 : am_at cX10_check 138 (.iconst 2) 1 139 := by decide +kernel
theorem dX10_check_139 : am_at cX10_check 139 (.iload 5) 2 141 := by decide +kernel
theorem dX10_check_141 : am_at cX10_check 141 (.imul) 1 142 := by decide +kernel
theorem dX10_check_142 : am_at cX10_check 142 (.iconst 1) 1 143 := by decide +kernel
theorem dX10_check_143 : am_at cX10_check 143 (.iadd) 1 144 := by decide +kernel
theorem dX10_check_144 : am_at cX10_check 144 (.if_icmp .ne 27) 3 147 := by decide +kernel
theorem dX10_check_147 : am_at cX10_check 147 (.iload 4) 2 149 := by decide +kernel
theorem dX10_check_149 : am_at cX10_check 149 (.iload_n 2) 1 150 := by decide +kernel
theorem dX10_check_150 : am_at cX10_check 150 (.if_icmp .ge 21) 3 153 := by decide +kernel
theorem dX10_check_153 : am_at cX10_check 153 (.aload_n 0) 1 154 := by decide +kernel
theorem dX10_check_154 : am_at cX10_check 154 (.getfield 81) 3 157 := by decide +kernel
theorem dX10_check_157 : am_at cX10_check 157 (.iload 4) 2 159 := by decide +kernel
theorem dX10_check_159 : am_at cX10_check 159 (.iaload) 1 160 := by decide +kernel
theorem dX10_check_160 : am_at cX10_check 160 (.aload_n 0) 1 161 := by decide +kernel
theorem dX10_check_161 : am_at cX10_check 161 (.invokevirtual 192) 3 164 := by decide +kernel
theorem dX10_check_164 : am_at cX10_check 164 (.if_icmp .ne 7) 3 167 := by decide +kernel
theorem dX10_check_167 : am_at cX10_check 167 (.iconst 1) 1 168 := by decide +kernel
theorem dX10_check_168 : am_at cX10_check 168 (.goto 4) 3 171 := by decide +kernel
theorem dX10_check_171 : am_at cX10_check 171 (.iconst 0) 1 172 := by decide +kernel
theorem dX10_check_172 : am_at cX10_check 172 (.iadd) 1 173 := by decide +kernel
theorem dX10_check_173 : am_at cX10_check 173 (.istore 4) 2 175 := by decide +kernel
theorem dX10_check_175 : am_at cX10_check 175 (.iinc 5 1) 3 178 := by decide +kernel
theorem dX10_check_178 : am_at cX10_check 178 (.goto (-98)) 3 181 := by decide +kernel
theorem dX10_check_181 : am_at cX10_check 181 (.aload_n 0) 1 182 := by decide +kernel
theorem dX10_check_182 : am_at cX10_check 182 (.getfield 16) 3 185 := by decide +kernel
theorem dX10_check_185 : am_at cX10_check 185 (.aload_n 0) 1 186 := by decide +kernel
theorem dX10_check_186 : am_at cX10_check 186 (.getfield 9) 3 189 := by decide +kernel
theorem dX10_check_189 : am_at cX10_check 189 (.invokestatic 297) 3 192 := by decide +kernel
theorem dX10_check_192 : am_at cX10_check 192 (.iload 4) 2 194 := by decide +kernel
theorem dX10_check_194 : am_at cX10_check 194 (.iload_n 2) 1 195 := by decide +kernel
theorem dX10_check_195 : am_at cX10_check 195 (.if_icmp .ne 13) 3 198 := by decide +kernel
theorem dX10_check_198 : am_at cX10_check 198 (.iload 4) 2 200 := by decide +kernel
theorem dX10_check_200 : am_at cX10_check 200 (.iload_n 3) 1 201 := by decide +kernel
theorem dX10_check_201 : am_at cX10_check 201 (.if_icmp .ne 7) 3 204 := by decide +kernel
theorem dX10_check_204 : am_at cX10_check 204 (.iconst 0) 1 205 := by decide +kernel
theorem dX10_check_205 : am_at cX10_check 205 (.goto 7) 3 208 := by decide +kernel
theorem dX10_check_208 : am_at cX10_check 208 (.iconst 1) 1 209 := by decide +kernel
theorem dX10_check_209 : am_at cX10_check 209 (.iload 4) 2 211 := by decide +kernel
theorem dX10_check_211 : am_at cX10_check 211 (.iadd) 1 212 := by decide +kernel
theorem dX10_check_212 : am_at cX10_check 212 (.ireturn) 1 213 := by decide +kernel
def fxX10_check_b172 (k80 : Option Nat → Int32 → Int32 → Int32 → Int32 → am_H → Option (Int32 × am_H)) (l0 : Option Nat) (l2 : Int32) (l3 : Int32) (l5 : Int32) (s0 : Int32) (s1 : Int32) (h : am_H) : Option (Int32 × am_H) := am_lt (s1 + s0) (fun x32 => am_lt (l5 + 1) (fun x33 => k80 l0 l2 l3 x32 x33 h))
set_option maxRecDepth 100000 in
theorem sxX10_check_b172 {xs : List Int32} (k80 : Option Nat → Int32 → Int32 → Int32 → Int32 → am_H → Option (Int32 × am_H)) (hk80 : ∀ (l0 : Option Nat) (l2 : Int32) (l3 : Int32) (l4 : Int32) (l5 : Int32) (h : am_H), am_Sm xs am_ci mX10_check 4 0 0 80 [some (am_R l0), none, some (am_I l2), some (am_I l3), some (am_I l4), some (am_I l5), none] [] h (k80 l0 l2 l3 l4 l5 h)) (l0 : Option Nat) (l2 : Int32) (l3 : Int32) (l5 : Int32) (s0 : Int32) (s1 : Int32) (h : am_H) : am_Sm xs am_ci mX10_check 4 0 0 172 [some (am_R l0), none, some (am_I l2), some (am_I l3), none, some (am_I l5), none] [am_I s0, am_I s1] h (fxX10_check_b172 k80 l0 l2 l3 l5 s0 s1 h) := by
  unfold fxX10_check_b172
  refine am_iadd dX10_check_172 ?_
  refine am_istore (LL := fun y9 => [some (am_R l0), none, some (am_I l2), some (am_I l3), some (am_I y9), some (am_I l5), none]) dX10_check_173 (by decide) (fun _ => rfl) (fun x32 => ?_)
  refine am_iinc (v := 1) (LL := fun y9 => [some (am_R l0), none, some (am_I l2), some (am_I l3), some (am_I x32), some (am_I y9), none]) dX10_check_175 (by decide) rfl (by decide) (fun _ => rfl) (fun x33 => ?_)
  refine am_goto (tgt := 80) dX10_check_178 (by decide) ?_
  exact am_weak (hk80 l0 l2 l3 x32 x33 h) ⟨rfl, ⟨rfl, ⟨rfl, ⟨rfl, ⟨rfl, trivial⟩⟩⟩⟩⟩ (Nat.le_refl _) (Nat.le_refl _)
def fxX10_check_b171 (k80 : Option Nat → Int32 → Int32 → Int32 → Int32 → am_H → Option (Int32 × am_H)) (l0 : Option Nat) (l2 : Int32) (l3 : Int32) (l5 : Int32) (s0 : Int32) (h : am_H) : Option (Int32 × am_H) := fxX10_check_b172 k80 l0 l2 l3 l5 (0 : Int32) s0 h
set_option maxRecDepth 100000 in
theorem sxX10_check_b171 {xs : List Int32} (k80 : Option Nat → Int32 → Int32 → Int32 → Int32 → am_H → Option (Int32 × am_H)) (hk80 : ∀ (l0 : Option Nat) (l2 : Int32) (l3 : Int32) (l4 : Int32) (l5 : Int32) (h : am_H), am_Sm xs am_ci mX10_check 4 0 0 80 [some (am_R l0), none, some (am_I l2), some (am_I l3), some (am_I l4), some (am_I l5), none] [] h (k80 l0 l2 l3 l4 l5 h)) (l0 : Option Nat) (l2 : Int32) (l3 : Int32) (l5 : Int32) (s0 : Int32) (h : am_H) : am_Sm xs am_ci mX10_check 4 0 0 171 [some (am_R l0), none, some (am_I l2), some (am_I l3), none, some (am_I l5), none] [am_I s0] h (fxX10_check_b171 k80 l0 l2 l3 l5 s0 h) := by
  unfold fxX10_check_b171
  refine am_iconst (v := 0) dX10_check_171 (by decide) ?_
  exact am_weak (sxX10_check_b172 k80 hk80 l0 l2 l3 l5 (0 : Int32) s0 h) ⟨rfl, ⟨rfl, ⟨rfl, ⟨rfl, trivial⟩⟩⟩⟩ (Nat.le_refl _) (Nat.le_refl _)
def fxX10_check_b131 (k80 : Option Nat → Int32 → Int32 → Int32 → Int32 → am_H → Option (Int32 × am_H)) (l0 : Option Nat) (l2 : Int32) (l3 : Int32) (l5 : Int32) (s0 : Int32) (s1 : Int32) (h : am_H) : Option (Int32 × am_H) := am_lt (s1 + s0) (fun x26 => if x26 = (((2 : Int32) * l5) + (1 : Int32)) then (if l2 ≤ x26 then (fxX10_check_b171 k80 l0 l2 l3 l5 x26 h) else (am_gd (am_ob h l0 10) (am_gd (am_ix h (am_gr h l0 34) 0 x26) (am_gd (am_ob h l0 10) (am_bd (fxX10_wearAll l0 h) (fun r27 h28 => if (am_gi h (am_gr h l0 34) x26.toNatClampNeg) = r27 then (fxX10_check_b172 k80 l0 l2 l3 l5 (1 : Int32) x26 h28) else (fxX10_check_b171 k80 l0 l2 l3 l5 x26 h28))))))) else (fxX10_check_b171 k80 l0 l2 l3 l5 x26 h))
set_option maxRecDepth 100000 in
theorem sxX10_check_b131 {xs : List Int32} (k80 : Option Nat → Int32 → Int32 → Int32 → Int32 → am_H → Option (Int32 × am_H)) (hk80 : ∀ (l0 : Option Nat) (l2 : Int32) (l3 : Int32) (l4 : Int32) (l5 : Int32) (h : am_H), am_Sm xs am_ci mX10_check 4 0 0 80 [some (am_R l0), none, some (am_I l2), some (am_I l3), some (am_I l4), some (am_I l5), none] [] h (k80 l0 l2 l3 l4 l5 h)) (l0 : Option Nat) (l2 : Int32) (l3 : Int32) (l5 : Int32) (s0 : Int32) (s1 : Int32) (h : am_H) : am_Sm xs am_ci mX10_check 4 0 0 131 [some (am_R l0), none, some (am_I l2), some (am_I l3), none, some (am_I l5), none] [am_I s0, am_I s1] h (fxX10_check_b131 k80 l0 l2 l3 l5 s0 s1 h) := by
  unfold fxX10_check_b131
  refine am_iadd dX10_check_131 ?_
  refine am_istore (LL := fun y9 => [some (am_R l0), none, some (am_I l2), some (am_I l3), some (am_I y9), some (am_I l5), none]) dX10_check_132 (by decide) (fun _ => rfl) (fun x26 => ?_)
  refine am_iload dX10_check_134 rfl ?_
  refine am_iload dX10_check_136 rfl ?_
  refine am_iconst (v := 2) dX10_check_138 (by decide) ?_
  refine am_iload dX10_check_139 rfl ?_
  refine am_imul dX10_check_141 ?_
  refine am_iconst (v := 1) dX10_check_142 (by decide) ?_
  refine am_iadd dX10_check_143 ?_
  refine am_icmp_ne (tgt := 171) dX10_check_144 (by decide) (fun c31 => ?_) (fun c31 => ?_)
  · exact am_weak (sxX10_check_b171 k80 hk80 l0 l2 l3 l5 x26 h) ⟨rfl, ⟨rfl, ⟨rfl, ⟨rfl, trivial⟩⟩⟩⟩ (Nat.le_refl _) (Nat.le_refl _)
  refine am_iload dX10_check_147 rfl ?_
  refine am_iload_n dX10_check_149 rfl ?_
  refine am_icmp_ge (tgt := 171) dX10_check_150 (by decide) (fun c30 => ?_) (fun c30 => ?_)
  · exact am_weak (sxX10_check_b171 k80 hk80 l0 l2 l3 l5 x26 h) ⟨rfl, ⟨rfl, ⟨rfl, ⟨rfl, trivial⟩⟩⟩⟩ (Nat.le_refl _) (Nat.le_refl _)
  refine am_aload_n dX10_check_153 rfl ?_
  refine am_getR dX10_check_154 fk_RX10_81 rfl ?_
  refine am_iload dX10_check_157 rfl ?_
  refine am_iald dX10_check_159 ?_
  refine am_aload_n dX10_check_160 rfl ?_
  refine am_callV (cvj := am_ci) (mtj := mX10_wearAll) (dj := 1) (nj := 0) (rcj := 0) (rsj := 0) (rc' := 0) (rs' := 0) (ci := 10) (st' := fun a9 => (am_I a9 :: [am_I (am_gi h (am_gr h l0 34) x26.toNatClampNeg), am_I x26])) ⟨_, rfl, rfl⟩ [] [am_I (am_gi h (am_gr h l0 34) x26.toNatClampNeg), am_I x26] dX10_check_161 okX10_wearAll lk_RX10_192 (fun zA zH zE => txX10_wearAll l0 h zA zH zE) rfl (fun _ => rfl) (by decide) rfl (Nat.le_of_ble_eq_true rfl) (by decide) (by decide) (fun r27 h28 => ?_)
  refine am_icmp_ne (tgt := 171) dX10_check_164 (by decide) (fun c29 => ?_) (fun c29 => ?_)
  · exact am_weak (sxX10_check_b171 k80 hk80 l0 l2 l3 l5 x26 h28) ⟨rfl, ⟨rfl, ⟨rfl, ⟨rfl, trivial⟩⟩⟩⟩ (Nat.le_refl _) (Nat.le_refl _)
  refine am_iconst (v := 1) dX10_check_167 (by decide) ?_
  refine am_goto (tgt := 172) dX10_check_168 (by decide) ?_
  exact am_weak (sxX10_check_b172 k80 hk80 l0 l2 l3 l5 (1 : Int32) x26 h28) ⟨rfl, ⟨rfl, ⟨rfl, ⟨rfl, trivial⟩⟩⟩⟩ (Nat.le_refl _) (Nat.le_refl _)
def fxX10_check_b130 (k80 : Option Nat → Int32 → Int32 → Int32 → Int32 → am_H → Option (Int32 × am_H)) (l0 : Option Nat) (l2 : Int32) (l3 : Int32) (l5 : Int32) (s0 : Int32) (h : am_H) : Option (Int32 × am_H) := fxX10_check_b131 k80 l0 l2 l3 l5 (0 : Int32) s0 h
set_option maxRecDepth 100000 in
theorem sxX10_check_b130 {xs : List Int32} (k80 : Option Nat → Int32 → Int32 → Int32 → Int32 → am_H → Option (Int32 × am_H)) (hk80 : ∀ (l0 : Option Nat) (l2 : Int32) (l3 : Int32) (l4 : Int32) (l5 : Int32) (h : am_H), am_Sm xs am_ci mX10_check 4 0 0 80 [some (am_R l0), none, some (am_I l2), some (am_I l3), some (am_I l4), some (am_I l5), none] [] h (k80 l0 l2 l3 l4 l5 h)) (l0 : Option Nat) (l2 : Int32) (l3 : Int32) (l5 : Int32) (s0 : Int32) (h : am_H) : am_Sm xs am_ci mX10_check 4 0 0 130 [some (am_R l0), none, some (am_I l2), some (am_I l3), none, some (am_I l5), none] [am_I s0] h (fxX10_check_b130 k80 l0 l2 l3 l5 s0 h) := by
  unfold fxX10_check_b130
  refine am_iconst (v := 0) dX10_check_130 (by decide) ?_
  exact am_weak (sxX10_check_b131 k80 hk80 l0 l2 l3 l5 (0 : Int32) s0 h) ⟨rfl, ⟨rfl, ⟨rfl, ⟨rfl, trivial⟩⟩⟩⟩ (Nat.le_refl _) (Nat.le_refl _)
def fxX10_check_b181 (l0 : Option Nat) (l2 : Int32) (l3 : Int32) (l4 : Int32) (h : am_H) : Option (Int32 × am_H) := am_gd (am_ob h l0 10) (am_gd (am_ob h l0 10) (am_bd (fxX10_copyAll (am_gr h l0 2) (am_gr h l0 0) h) (fun _ h23 => if l4 = l2 then (if l4 = l3 then (some ((0 : Int32), h23)) else (some (((1 : Int32) + l4), h23))) else (some (((1 : Int32) + l4), h23)))))
set_option maxRecDepth 100000 in
theorem sxX10_check_b181 {xs : List Int32} (l0 : Option Nat) (l2 : Int32) (l3 : Int32) (l4 : Int32) (h : am_H) : am_Sm xs am_ci mX10_check 4 0 0 181 [some (am_R l0), none, some (am_I l2), some (am_I l3), some (am_I l4), none, none] [] h (fxX10_check_b181 l0 l2 l3 l4 h) := by
  unfold fxX10_check_b181
  refine am_aload_n dX10_check_181 rfl ?_
  refine am_getR dX10_check_182 fk_RX10_16 rfl ?_
  refine am_aload_n dX10_check_185 rfl ?_
  refine am_getR dX10_check_186 fk_RX10_9 rfl ?_
  refine am_callS (cvj := am_cu) (mtj := mX10_copyAll) (dj := 0) (nj := 2) (rcj := 0) (rsj := 0) (rc' := 0) (rs' := 0) (st' := fun _ => []) [am_R (am_gr h l0 2), am_R (am_gr h l0 0)] [] dX10_check_189 okX10_copyAll lk_RX10_297 (fun zA zH zE => txX10_copyAll (am_gr h l0 2) (am_gr h l0 0) h zA zH zE) rfl (fun _ => rfl) (by decide) rfl (Nat.le_of_ble_eq_true rfl) (by decide) (by decide) (fun _ h23 => ?_)
  refine am_iload dX10_check_192 rfl ?_
  refine am_iload_n dX10_check_194 rfl ?_
  refine am_icmp_ne (tgt := 208) dX10_check_195 (by decide) (fun c25 => ?_) (fun c25 => ?_)
  · refine am_iconst (v := 1) dX10_check_208 (by decide) ?_
    refine am_iload dX10_check_209 rfl ?_
    refine am_iadd dX10_check_211 ?_
    exact am_iret dX10_check_212 rfl rfl
  refine am_iload dX10_check_198 rfl ?_
  refine am_iload_n dX10_check_200 rfl ?_
  refine am_icmp_ne (tgt := 208) dX10_check_201 (by decide) (fun c24 => ?_) (fun c24 => ?_)
  · refine am_iconst (v := 1) dX10_check_208 (by decide) ?_
    refine am_iload dX10_check_209 rfl ?_
    refine am_iadd dX10_check_211 ?_
    exact am_iret dX10_check_212 rfl rfl
  refine am_iconst (v := 0) dX10_check_204 (by decide) ?_
  refine am_goto (tgt := 212) dX10_check_205 (by decide) ?_
  exact am_iret dX10_check_212 rfl rfl
def fxX10_check_b80 : Nat → Option Nat → Int32 → Int32 → Int32 → Int32 → am_H → Option (Int32 × am_H)
  | 0, _, _, _, _, _, _ => none
  | n + 1, l0, l2, l3, l4, l5, h => if l3 ≤ ((2 : Int32) * l5) then (fxX10_check_b181 l0 l2 l3 l4 h) else (if l4 = ((2 : Int32) * l5) then (am_gd (am_ob h l0 10) (am_bd (fxX10_day l0 (-1 : Int32) h) (fun r14 h15 => am_lt r14 (fun x16 => if l2 ≤ l4 then (fxX10_check_b130 (fxX10_check_b80 n) l0 l2 l3 l5 l4 h15) else (am_gd (am_ob h15 l0 10) (am_gd (am_ix h15 (am_gr h15 l0 34) 0 l4) (am_gd (am_ob h15 l0 10) (am_bd (fxX10_lostMany l0 h15) (fun r17 h18 => if (am_gi h15 (am_gr h15 l0 34) l4.toNatClampNeg) = r17 then (fxX10_check_b131 (fxX10_check_b80 n) l0 l2 l3 l5 (1 : Int32) l4 h18) else (fxX10_check_b130 (fxX10_check_b80 n) l0 l2 l3 l5 l4 h18)))))))))) else (fxX10_check_b181 l0 l2 l3 l4 h))
set_option maxRecDepth 100000 in
theorem sxX10_check_b80 {xs : List Int32} : ∀ (n : Nat) (l0 : Option Nat) (l2 : Int32) (l3 : Int32) (l4 : Int32) (l5 : Int32) (h : am_H), am_Sm xs am_ci mX10_check 4 0 0 80 [some (am_R l0), none, some (am_I l2), some (am_I l3), some (am_I l4), some (am_I l5), none] [] h (fxX10_check_b80 n l0 l2 l3 l4 l5 h) := by
  intro n
  induction n with
  | zero => intros; exact am_none
  | succ n ih =>
    intro l0 l2 l3 l4 l5 h
    rw [fxX10_check_b80]
    refine am_iconst (v := 2) dX10_check_80 (by decide) ?_
    refine am_iload dX10_check_81 rfl ?_
    refine am_imul dX10_check_83 ?_
    refine am_iload_n dX10_check_84 rfl ?_
    refine am_icmp_ge (tgt := 181) dX10_check_85 (by decide) (fun c22 => ?_) (fun c22 => ?_)
    · exact am_weak (sxX10_check_b181 l0 l2 l3 l4 h) ⟨rfl, ⟨rfl, ⟨rfl, ⟨rfl, trivial⟩⟩⟩⟩ (Nat.le_refl _) (Nat.le_refl _)
    refine am_iload dX10_check_88 rfl ?_
    refine am_iconst (v := 2) dX10_check_90 (by decide) ?_
    refine am_iload dX10_check_91 rfl ?_
    refine am_imul dX10_check_93 ?_
    refine am_icmp_ne (tgt := 181) dX10_check_94 (by decide) (fun c21 => ?_) (fun c21 => ?_)
    · exact am_weak (sxX10_check_b181 l0 l2 l3 l4 h) ⟨rfl, ⟨rfl, ⟨rfl, ⟨rfl, trivial⟩⟩⟩⟩ (Nat.le_refl _) (Nat.le_refl _)
    refine am_aload_n dX10_check_97 rfl ?_
    refine am_iconst (v := (-1)) dX10_check_98 (by decide) ?_
    refine am_callV (cvj := am_ci) (mtj := mX10_day) (dj := 3) (nj := 1) (rcj := 0) (rsj := 0) (rc' := 0) (rs' := 0) (ci := 10) (st' := fun a9 => (am_I a9 :: [])) ⟨_, rfl, rfl⟩ [am_I (-1 : Int32)] [] dX10_check_99 okX10_day lk_RX10_177 (fun zA zH zE => txX10_day l0 (-1 : Int32) h zA zH zE) rfl (fun _ => rfl) (by decide) rfl (Nat.le_of_ble_eq_true rfl) (by decide) (by decide) (fun r14 h15 => ?_)
    refine am_istore (LL := fun y9 => [some (am_R l0), none, some (am_I l2), some (am_I l3), some (am_I l4), some (am_I l5), some (am_I y9)]) dX10_check_102 (by decide) (fun _ => rfl) (fun x16 => ?_)
    refine am_iload dX10_check_104 rfl ?_
    refine am_iload dX10_check_106 rfl ?_
    refine am_iload_n dX10_check_108 rfl ?_
    refine am_icmp_ge (tgt := 130) dX10_check_109 (by decide) (fun c20 => ?_) (fun c20 => ?_)
    · exact am_weak (sxX10_check_b130 (fxX10_check_b80 n) ih l0 l2 l3 l5 l4 h15) ⟨rfl, ⟨rfl, ⟨rfl, ⟨rfl, trivial⟩⟩⟩⟩ (Nat.le_refl _) (Nat.le_refl _)
    refine am_aload_n dX10_check_112 rfl ?_
    refine am_getR dX10_check_113 fk_RX10_81 rfl ?_
    refine am_iload dX10_check_116 rfl ?_
    refine am_iald dX10_check_118 ?_
    refine am_aload_n dX10_check_119 rfl ?_
    refine am_callV (cvj := am_ci) (mtj := mX10_lostMany) (dj := 1) (nj := 0) (rcj := 0) (rsj := 0) (rc' := 0) (rs' := 0) (ci := 10) (st' := fun a9 => (am_I a9 :: [am_I (am_gi h15 (am_gr h15 l0 34) l4.toNatClampNeg), am_I l4])) ⟨_, rfl, rfl⟩ [] [am_I (am_gi h15 (am_gr h15 l0 34) l4.toNatClampNeg), am_I l4] dX10_check_120 okX10_lostMany lk_RX10_189 (fun zA zH zE => txX10_lostMany l0 h15 zA zH zE) rfl (fun _ => rfl) (by decide) rfl (Nat.le_of_ble_eq_true rfl) (by decide) (by decide) (fun r17 h18 => ?_)
    refine am_icmp_ne (tgt := 130) dX10_check_123 (by decide) (fun c19 => ?_) (fun c19 => ?_)
    · exact am_weak (sxX10_check_b130 (fxX10_check_b80 n) ih l0 l2 l3 l5 l4 h18) ⟨rfl, ⟨rfl, ⟨rfl, ⟨rfl, trivial⟩⟩⟩⟩ (Nat.le_refl _) (Nat.le_refl _)
    refine am_iconst (v := 1) dX10_check_126 (by decide) ?_
    refine am_goto (tgt := 131) dX10_check_127 (by decide) ?_
    exact am_weak (sxX10_check_b131 (fxX10_check_b80 n) ih l0 l2 l3 l5 (1 : Int32) l4 h18) ⟨rfl, ⟨rfl, ⟨rfl, ⟨rfl, trivial⟩⟩⟩⟩ (Nat.le_refl _) (Nat.le_refl _)
def fxX10_check (l0 : Option Nat) (l1 : Int32) (h : am_H) : Option (Int32 × am_H) := am_gd (am_ob h l0 10) (am_lt (am_gi h l0 35) (fun x1 => am_gd (am_ob h l0 10) (am_lt (am_si h l0 35 (0 : Int32)) (fun h2 => am_bd (fxX10_in l1 (1 : Int32) (30 : Int32) h2) (fun r3 h4 => if r3 = 0 then (some ((-1000000001 : Int32), h4)) else (am_gd (am_ob h4 l0 10) (if (am_gi h4 l0 3) = 0 then (some ((-1000000002 : Int32), h4)) else (am_gd (am_ob h4 l0 10) (am_gd (am_ob h4 l0 10) (am_bd (fxX10_copyAll (am_gr h4 l0 0) (am_gr h4 l0 2) h4) (fun _ h5 => am_gd (am_ob h5 l0 10) (am_gd (am_ob h5 l0 10) (am_bd (fxX10_copyAll (am_gr h5 l0 1) (am_gr h5 l0 0) h5) (fun _ h6 => am_gd (am_ob h6 l0 10) (am_gd (am_ix h6 (am_gr h6 l0 0) 0 (2 : Int32)) (am_bd (fxX10_within ((9999 : Int32) - (am_gi h6 (am_gr h6 l0 0) (2 : Int32).toNatClampNeg)) (0 : Int32) l1 h6) (fun r7 h8 => am_lt ((2 : Int32) * r7) (fun x9 => am_lt (0 : Int32) (fun x10 => am_lt (0 : Int32) (fun x11 => fxX10_check_b80 am_F l0 x1 x9 x10 x11 h8))))))))))))))))))))
set_option maxRecDepth 100000 in
theorem sxX10_check {xs : List Int32} (l0 : Option Nat) (l1 : Int32) (h : am_H) : am_Sm xs am_ci mX10_check 4 0 0 0 [some (am_R l0), some (am_I l1), none, none, none, none, none] [] h (fxX10_check l0 l1 h) := by
  unfold fxX10_check
  refine am_aload_n dX10_check_0 rfl ?_
  refine am_getI dX10_check_1 fk_RX10_290 rfl ?_
  refine am_istore_n (LL := fun y9 => [some (am_R l0), some (am_I l1), some (am_I y9), none, none, none, none]) dX10_check_4 (by decide) (fun _ => rfl) (fun x1 => ?_)
  refine am_aload_n dX10_check_5 rfl ?_
  refine am_iconst (v := 0) dX10_check_6 (by decide) ?_
  refine am_putI dX10_check_7 fk_RX10_290 ⟨_, rfl, Or.inl rfl⟩ rfl (fun h2 => ?_)
  refine am_iload_n dX10_check_10 rfl ?_
  refine am_iconst (v := 1) dX10_check_11 (by decide) ?_
  refine am_bipush (v := 30) dX10_check_12 (by decide) ?_
  refine am_callS (cvj := am_ci) (mtj := mX10_in) (dj := 0) (nj := 3) (rcj := 0) (rsj := 0) (rc' := 0) (rs' := 0) (st' := fun a9 => (am_I a9 :: [])) [am_I l1, am_I (1 : Int32), am_I (30 : Int32)] [] dX10_check_14 okX10_in lk_RX10_85 (fun zA zH zE => txX10_in l1 (1 : Int32) (30 : Int32) h2 zA zH zE) rfl (fun _ => rfl) (by decide) rfl (Nat.le_of_ble_eq_true rfl) (by decide) (by decide) (fun r3 h4 => ?_)
  refine am_if_ne (tgt := 23) dX10_check_17 (by decide) (fun c13 => ?_) (fun c13 => ?_)
  · refine am_aload_n dX10_check_23 rfl ?_
    refine am_getI dX10_check_24 fk_RX10_293 rfl ?_
    refine am_if_ne (tgt := 34) dX10_check_27 (by decide) (fun c12 => ?_) (fun c12 => ?_)
    · refine am_aload_n dX10_check_34 rfl ?_
      refine am_getR dX10_check_35 fk_RX10_9 rfl ?_
      refine am_aload_n dX10_check_38 rfl ?_
      refine am_getR dX10_check_39 fk_RX10_16 rfl ?_
      refine am_callS (cvj := am_cu) (mtj := mX10_copyAll) (dj := 0) (nj := 2) (rcj := 0) (rsj := 0) (rc' := 0) (rs' := 0) (st' := fun _ => []) [am_R (am_gr h4 l0 0), am_R (am_gr h4 l0 2)] [] dX10_check_42 okX10_copyAll lk_RX10_297 (fun zA zH zE => txX10_copyAll (am_gr h4 l0 0) (am_gr h4 l0 2) h4 zA zH zE) rfl (fun _ => rfl) (by decide) rfl (Nat.le_of_ble_eq_true rfl) (by decide) (by decide) (fun _ h5 => ?_)
      refine am_aload_n dX10_check_45 rfl ?_
      refine am_getR dX10_check_46 fk_RX10_13 rfl ?_
      refine am_aload_n dX10_check_49 rfl ?_
      refine am_getR dX10_check_50 fk_RX10_9 rfl ?_
      refine am_callS (cvj := am_cu) (mtj := mX10_copyAll) (dj := 0) (nj := 2) (rcj := 0) (rsj := 0) (rc' := 0) (rs' := 0) (st' := fun _ => []) [am_R (am_gr h5 l0 1), am_R (am_gr h5 l0 0)] [] dX10_check_53 okX10_copyAll lk_RX10_297 (fun zA zH zE => txX10_copyAll (am_gr h5 l0 1) (am_gr h5 l0 0) h5 zA zH zE) rfl (fun _ => rfl) (by decide) rfl (Nat.le_of_ble_eq_true rfl) (by decide) (by decide) (fun _ h6 => ?_)
      refine am_iconst (v := 2) dX10_check_56 (by decide) ?_
      refine am_sipush (v := 9999) dX10_check_57 (by decide) ?_
      refine am_aload_n dX10_check_60 rfl ?_
      refine am_getR dX10_check_61 fk_RX10_9 rfl ?_
      refine am_iconst (v := 2) dX10_check_64 (by decide) ?_
      refine am_iald dX10_check_65 ?_
      refine am_isub dX10_check_66 ?_
      refine am_iconst (v := 0) dX10_check_67 (by decide) ?_
      refine am_iload_n dX10_check_68 rfl ?_
      refine am_callS (cvj := am_ci) (mtj := mX10_within) (dj := 0) (nj := 3) (rcj := 0) (rsj := 0) (rc' := 0) (rs' := 0) (st' := fun a9 => (am_I a9 :: [am_I (2 : Int32)])) [am_I ((9999 : Int32) - (am_gi h6 (am_gr h6 l0 0) (2 : Int32).toNatClampNeg)), am_I (0 : Int32), am_I l1] [am_I (2 : Int32)] dX10_check_69 okX10_within lk_RX10_128 (fun zA zH zE => txX10_within ((9999 : Int32) - (am_gi h6 (am_gr h6 l0 0) (2 : Int32).toNatClampNeg)) (0 : Int32) l1 h6 zA zH zE) rfl (fun _ => rfl) (by decide) rfl (Nat.le_of_ble_eq_true rfl) (by decide) (by decide) (fun r7 h8 => ?_)
      refine am_imul dX10_check_72 ?_
      refine am_istore_n (LL := fun y9 => [some (am_R l0), some (am_I l1), some (am_I x1), some (am_I y9), none, none, none]) dX10_check_73 (by decide) (fun _ => rfl) (fun x9 => ?_)
      refine am_iconst (v := 0) dX10_check_74 (by decide) ?_
      refine am_istore (LL := fun y9 => [some (am_R l0), some (am_I l1), some (am_I x1), some (am_I x9), some (am_I y9), none, none]) dX10_check_75 (by decide) (fun _ => rfl) (fun x10 => ?_)
      refine am_iconst (v := 0) dX10_check_77 (by decide) ?_
      refine am_istore (LL := fun y9 => [some (am_R l0), some (am_I l1), some (am_I x1), some (am_I x9), some (am_I x10), some (am_I y9), none]) dX10_check_78 (by decide) (fun _ => rfl) (fun x11 => ?_)
      exact am_weak (sxX10_check_b80 am_F l0 x1 x9 x10 x11 h8) ⟨rfl, ⟨rfl, ⟨rfl, ⟨rfl, ⟨rfl, trivial⟩⟩⟩⟩⟩ (Nat.le_refl _) (Nat.le_refl _)
    refine am_ldcw (v := (-1000000002)) dX10_check_30 wd1401 ?_
    exact am_iret dX10_check_33 rfl rfl
  refine am_ldc (v := (-1000000001)) dX10_check_20 wd1060 ?_
  exact am_iret dX10_check_22 rfl rfl
theorem txX10_check {xs : List Int32} (l0 : Option Nat) (l1 : Int32) (h : am_H) (a : Int32) (h2 : am_H) (e : fxX10_check l0 l1 h = some (a, h2)) : am_Ct xs mX10_check 4 0 0 [am_R l0, am_I l1] h (fun v h3 => v = am_ci a ∧ h3 = h2) := am_meth okX10_check (Nat.le_of_ble_eq_true rfl) rfl (sxX10_check l0 l1 h) e
theorem dX10_keep_0 : am_at cX10_keep 0 (.aload_n 0) 1 1 := by decide +kernel
theorem dX10_keep_1 : am_at cX10_keep 1 (.getfield 9) 3 4 := by decide +kernel
theorem dX10_keep_4 : am_at cX10_keep 4 (.aload_n 0) 1 5 := by decide +kernel
theorem dX10_keep_5 : am_at cX10_keep 5 (.getfield 13) 3 8 := by decide +kernel
theorem dX10_keep_8 : am_at cX10_keep 8 (.invokestatic 297) 3 11 := by decide +kernel
theorem dX10_keep_11 : am_at cX10_keep 11 (.aload_n 0) 1 12 := by decide +kernel
theorem dX10_keep_12 : am_at cX10_keep 12 (.iconst 1) 1 13 := by decide +kernel
theorem dX10_keep_13 : am_at cX10_keep 13 (.putfield 293) 3 16 := by decide +kernel
theorem dX10_keep_16 : am_at cX10_keep 16 (.aload_n 0) 1 17 := by decide +kernel
theorem dX10_keep_17 : am_at cX10_keep 17 (.getfield 9) 3 20 := by decide +kernel
theorem dX10_keep_20 : am_at cX10_keep 20 (.iconst 1) 1 21 := by decide +kernel
theorem dX10_keep_21 : am_at cX10_keep 21 (.iaload) 1 22 := by decide +kernel
theorem dX10_keep_22 : am_at cX10_keep 22 (.ireturn) 1 23 := by decide +kernel
def fxX10_keep (l0 : Option Nat) (h : am_H) : Option (Int32 × am_H) := am_gd (am_ob h l0 10) (am_gd (am_ob h l0 10) (am_bd (fxX10_copyAll (am_gr h l0 0) (am_gr h l0 1) h) (fun _ h1 => am_gd (am_ob h1 l0 10 && am_bz (1 : Int32)) (am_lt (am_si h1 l0 3 (1 : Int32)) (fun h2 => am_gd (am_ob h2 l0 10) (am_gd (am_ix h2 (am_gr h2 l0 0) 0 (1 : Int32)) (some ((am_gi h2 (am_gr h2 l0 0) (1 : Int32).toNatClampNeg), h2))))))))
set_option maxRecDepth 100000 in
theorem sxX10_keep {xs : List Int32} (l0 : Option Nat) (h : am_H) : am_Sm xs am_ci mX10_keep 1 0 0 0 [some (am_R l0)] [] h (fxX10_keep l0 h) := by
  unfold fxX10_keep
  refine am_aload_n dX10_keep_0 rfl ?_
  refine am_getR dX10_keep_1 fk_RX10_9 rfl ?_
  refine am_aload_n dX10_keep_4 rfl ?_
  refine am_getR dX10_keep_5 fk_RX10_13 rfl ?_
  refine am_callS (cvj := am_cu) (mtj := mX10_copyAll) (dj := 0) (nj := 2) (rcj := 0) (rsj := 0) (rc' := 0) (rs' := 0) (st' := fun _ => []) [am_R (am_gr h l0 0), am_R (am_gr h l0 1)] [] dX10_keep_8 okX10_copyAll lk_RX10_297 (fun zA zH zE => txX10_copyAll (am_gr h l0 0) (am_gr h l0 1) h zA zH zE) rfl (fun _ => rfl) (by decide) rfl (Nat.le_of_ble_eq_true rfl) (by decide) (by decide) (fun _ h1 => ?_)
  refine am_aload_n dX10_keep_11 rfl ?_
  refine am_iconst (v := 1) dX10_keep_12 (by decide) ?_
  refine am_putZ dX10_keep_13 fk_RX10_293 ⟨_, rfl, Or.inl rfl⟩ rfl (fun h2 => ?_)
  refine am_aload_n dX10_keep_16 rfl ?_
  refine am_getR dX10_keep_17 fk_RX10_9 rfl ?_
  refine am_iconst (v := 1) dX10_keep_20 (by decide) ?_
  refine am_iald dX10_keep_21 ?_
  exact am_iret dX10_keep_22 rfl rfl
theorem txX10_keep {xs : List Int32} (l0 : Option Nat) (h : am_H) (a : Int32) (h2 : am_H) (e : fxX10_keep l0 h = some (a, h2)) : am_Ct xs mX10_keep 1 0 0 [am_R l0] h (fun v h3 => v = am_ci a ∧ h3 = h2) := am_meth okX10_keep (Nat.le_of_ble_eq_true rfl) rfl (sxX10_keep l0 h) e
theorem dX10_back_0 : am_at cX10_back 0 (.aload_n 0) 1 1 := by decide +kernel
theorem dX10_back_1 : am_at cX10_back 1 (.getfield 293) 3 4 := by decide +kernel
theorem dX10_back_4 : am_at cX10_back 4 (.ifCond .ne 7) 3 7 := by decide +kernel
theorem dX10_back_7 : am_at cX10_back 7 (.ldc_w 289) 3 10 := by decide +kernel
theorem dX10_back_10 : am_at cX10_back 10 (.ireturn) 1 11 := by decide +kernel
theorem dX10_back_11 : am_at cX10_back 11 (.aload_n 0) 1 12 := by decide +kernel
theorem dX10_back_12 : am_at cX10_back 12 (.getfield 13) 3 15 := by decide +kernel
theorem dX10_back_15 : am_at cX10_back 15 (.aload_n 0) 1 16 := by decide +kernel
theorem dX10_back_16 : am_at cX10_back 16 (.getfield 9) 3 19 := by decide +kernel
theorem dX10_back_19 : am_at cX10_back 19 (.invokestatic 297) 3 22 := by decide +kernel
theorem dX10_back_22 : am_at cX10_back 22 (.aload_n 0) 1 23 := by decide +kernel
theorem dX10_back_23 : am_at cX10_back 23 (.getfield 9) 3 26 := by decide +kernel
theorem dX10_back_26 : am_at cX10_back 26 (.iconst 1) 1 27 := by decide +kernel
theorem dX10_back_27 : am_at cX10_back 27 (.iaload) 1 28 := by decide +kernel
theorem dX10_back_28 : am_at cX10_back 28 (.ireturn) 1 29 := by decide +kernel
def fxX10_back (l0 : Option Nat) (h : am_H) : Option (Int32 × am_H) := am_gd (am_ob h l0 10) (if (am_gi h l0 3) = 0 then (some ((-1000000002 : Int32), h)) else (am_gd (am_ob h l0 10) (am_gd (am_ob h l0 10) (am_bd (fxX10_copyAll (am_gr h l0 1) (am_gr h l0 0) h) (fun _ h1 => am_gd (am_ob h1 l0 10) (am_gd (am_ix h1 (am_gr h1 l0 0) 0 (1 : Int32)) (some ((am_gi h1 (am_gr h1 l0 0) (1 : Int32).toNatClampNeg), h1))))))))
set_option maxRecDepth 100000 in
theorem sxX10_back {xs : List Int32} (l0 : Option Nat) (h : am_H) : am_Sm xs am_ci mX10_back 1 0 0 0 [some (am_R l0)] [] h (fxX10_back l0 h) := by
  unfold fxX10_back
  refine am_aload_n dX10_back_0 rfl ?_
  refine am_getI dX10_back_1 fk_RX10_293 rfl ?_
  refine am_if_ne (tgt := 11) dX10_back_4 (by decide) (fun c2 => ?_) (fun c2 => ?_)
  · refine am_aload_n dX10_back_11 rfl ?_
    refine am_getR dX10_back_12 fk_RX10_13 rfl ?_
    refine am_aload_n dX10_back_15 rfl ?_
    refine am_getR dX10_back_16 fk_RX10_9 rfl ?_
    refine am_callS (cvj := am_cu) (mtj := mX10_copyAll) (dj := 0) (nj := 2) (rcj := 0) (rsj := 0) (rc' := 0) (rs' := 0) (st' := fun _ => []) [am_R (am_gr h l0 1), am_R (am_gr h l0 0)] [] dX10_back_19 okX10_copyAll lk_RX10_297 (fun zA zH zE => txX10_copyAll (am_gr h l0 1) (am_gr h l0 0) h zA zH zE) rfl (fun _ => rfl) (by decide) rfl (Nat.le_of_ble_eq_true rfl) (by decide) (by decide) (fun _ h1 => ?_)
    refine am_aload_n dX10_back_22 rfl ?_
    refine am_getR dX10_back_23 fk_RX10_9 rfl ?_
    refine am_iconst (v := 1) dX10_back_26 (by decide) ?_
    refine am_iald dX10_back_27 ?_
    exact am_iret dX10_back_28 rfl rfl
  refine am_ldcw (v := (-1000000002)) dX10_back_7 wd1401 ?_
  exact am_iret dX10_back_10 rfl rfl
theorem txX10_back {xs : List Int32} (l0 : Option Nat) (h : am_H) (a : Int32) (h2 : am_H) (e : fxX10_back l0 h = some (a, h2)) : am_Ct xs mX10_back 1 0 0 [am_R l0] h (fun v h3 => v = am_ci a ∧ h3 = h2) := am_meth okX10_back (Nat.le_of_ble_eq_true rfl) rfl (sxX10_back l0 h) e
theorem dX10_count_0 : am_at cX10_count 0 (.iload_n 1) 1 1 := by decide +kernel
theorem dX10_count_1 : am_at cX10_count 1 (.tableswitch 108 0 8 #[51, 58, 63, 70, 77, 84, 91, 96, 101]) 51 52 := by decide +kernel
theorem dX10_count_52 : am_at cX10_count 52 (.aload_n 0) 1 53 := by decide +kernel
theorem dX10_count_53 : am_at cX10_count 53 (.getfield 9) 3 56 := by decide +kernel
theorem dX10_count_56 : am_at cX10_count 56 (.iconst 1) 1 57 := by decide +kernel
theorem dX10_count_57 : am_at cX10_count 57 (.iaload) 1 58 := by decide +kernel
theorem dX10_count_58 : am_at cX10_count 58 (.ireturn) 1 59 := by decide +kernel
theorem dX10_count_59 : am_at cX10_count 59 (.aload_n 0) 1 60 := by decide +kernel
theorem dX10_count_60 : am_at cX10_count 60 (.invokevirtual 189) 3 63 := by decide +kernel
theorem dX10_count_63 : am_at cX10_count 63 (.ireturn) 1 64 := by decide +kernel
theorem dX10_count_64 : am_at cX10_count 64 (.aload_n 0) 1 65 := by decide +kernel
theorem dX10_count_65 : am_at cX10_count 65 (.getfield 9) 3 68 := by decide +kernel
theorem dX10_count_68 : am_at cX10_count 68 (.iconst 2) 1 69 := by decide +kernel
theorem dX10_count_69 : am_at cX10_count 69 (.iaload) 1 70 := by decide +kernel
theorem dX10_count_70 : am_at cX10_count 70 (.ireturn) 1 71 := by decide +kernel
theorem dX10_count_71 : am_at cX10_count 71 (.aload_n 0) 1 72 := by decide +kernel
theorem dX10_count_72 : am_at cX10_count 72 (.getfield 9) 3 75 := by decide +kernel
theorem dX10_count_75 : am_at cX10_count 75 (.iconst 3) 1 76 := by decide +kernel
theorem dX10_count_76 : am_at cX10_count 76 (.iaload) 1 77 := by decide +kernel
theorem dX10_count_77 : am_at cX10_count 77 (.ireturn) 1 78 := by decide +kernel
theorem dX10_count_78 : am_at cX10_count 78 (.aload_n 0) 1 79 := by decide +kernel
theorem dX10_count_79 : am_at cX10_count 79 (.getfield 9) 3 82 := by decide +kernel
theorem dX10_count_82 : am_at cX10_count 82 (.iconst 4) 1 83 := by decide +kernel
theorem dX10_count_83 : am_at cX10_count 83 (.iaload) 1 84 := by decide +kernel
theorem dX10_count_84 : am_at cX10_count 84 (.ireturn) 1 85 := by decide +kernel
theorem dX10_count_85 : am_at cX10_count 85 (.aload_n 0) 1 86 := by decide +kernel
theorem dX10_count_86 : am_at cX10_count 86 (.getfield 9) 3 89 := by decide +kernel
theorem dX10_count_89 : am_at cX10_count 89 (.iconst 5) 1 90 := by decide +kernel
theorem dX10_count_90 : am_at cX10_count 90 (.iaload) 1 91 := by decide +kernel
theorem dX10_count_91 : am_at cX10_count 91 (.ireturn) 1 92 := by decide +kernel
theorem dX10_count_92 : am_at cX10_count 92 (.aload_n 0) 1 93 := by decide +kernel
theorem dX10_count_93 : am_at cX10_count 93 (.getfield 290) 3 96 := by decide +kernel
theorem dX10_count_96 : am_at cX10_count 96 (.ireturn) 1 97 := by decide +kernel
theorem dX10_count_97 : am_at cX10_count 97 (.aload_n 0) 1 98 := by decide +kernel
theorem dX10_count_98 : am_at cX10_count 98 (.getfield 213) 3 101 := by decide +kernel
theorem dX10_count_101 : am_at cX10_count 101 (.ireturn) 1 102 := by decide +kernel
theorem dX10_count_102 : am_at cX10_count 102 (.aload_n 0) 1 103 := by decide +kernel
theorem dX10_count_103 : am_at cX10_count 103 (.getfield 9) 3 106 := by decide +kernel
theorem dX10_count_106 : am_at cX10_count 106 (.iconst 0) 1 107 := by decide +kernel
theorem dX10_count_107 : am_at cX10_count 107 (.iaload) 1 108 := by decide +kernel
theorem dX10_count_108 : am_at cX10_count 108 (.ireturn) 1 109 := by decide +kernel
theorem dX10_count_109 : am_at cX10_count 109 (.ldc 93) 2 111 := by decide +kernel
theorem dX10_count_111 : am_at cX10_count 111 (.ireturn) 1 112 := by decide +kernel
def fxX10_count (l0 : Option Nat) (l1 : Int32) (h : am_H) : Option (Int32 × am_H) := if l1 = 0 then (am_gd (am_ob h l0 10) (am_gd (am_ix h (am_gr h l0 0) 0 (1 : Int32)) (some ((am_gi h (am_gr h l0 0) (1 : Int32).toNatClampNeg), h)))) else (if l1 = 1 then (am_gd (am_ob h l0 10) (am_bd (fxX10_lostMany l0 h) (fun r2 h3 => some (r2, h3)))) else (if l1 = 2 then (am_gd (am_ob h l0 10) (am_gd (am_ix h (am_gr h l0 0) 0 (2 : Int32)) (some ((am_gi h (am_gr h l0 0) (2 : Int32).toNatClampNeg), h)))) else (if l1 = 3 then (am_gd (am_ob h l0 10) (am_gd (am_ix h (am_gr h l0 0) 0 (3 : Int32)) (some ((am_gi h (am_gr h l0 0) (3 : Int32).toNatClampNeg), h)))) else (if l1 = 4 then (am_gd (am_ob h l0 10) (am_gd (am_ix h (am_gr h l0 0) 0 (4 : Int32)) (some ((am_gi h (am_gr h l0 0) (4 : Int32).toNatClampNeg), h)))) else (if l1 = 5 then (am_gd (am_ob h l0 10) (am_gd (am_ix h (am_gr h l0 0) 0 (5 : Int32)) (some ((am_gi h (am_gr h l0 0) (5 : Int32).toNatClampNeg), h)))) else (if l1 = 6 then (am_gd (am_ob h l0 10) (some ((am_gi h l0 35), h))) else (if l1 = 7 then (am_gd (am_ob h l0 10) (some ((am_gi h l0 9), h))) else (if l1 = 8 then (am_gd (am_ob h l0 10) (am_gd (am_ix h (am_gr h l0 0) 0 (0 : Int32)) (some ((am_gi h (am_gr h l0 0) (0 : Int32).toNatClampNeg), h)))) else (some ((-1000000001 : Int32), h))))))))))
set_option maxRecDepth 100000 in
theorem sxX10_count {xs : List Int32} (l0 : Option Nat) (l1 : Int32) (h : am_H) : am_Sm xs am_ci mX10_count 2 0 0 0 [some (am_R l0), some (am_I l1)] [] h (fxX10_count l0 l1 h) := by
  unfold fxX10_count
  refine am_iload_n dX10_count_0 rfl ?_
  refine am_table (cs := [(0, 52), (1, 59), (2, 64), (3, 71), (4, 78), (5, 85), (6, 92), (7, 97), (8, 102)]) (dt := 109) dX10_count_1 (by decide +kernel) ?_
  refine am_sw_cons (fun c1 => ?_) (fun c1 => ?_)
  · refine am_aload_n dX10_count_52 rfl ?_
    refine am_getR dX10_count_53 fk_RX10_9 rfl ?_
    refine am_iconst (v := 1) dX10_count_56 (by decide) ?_
    refine am_iald dX10_count_57 ?_
    exact am_iret dX10_count_58 rfl rfl
  refine am_sw_cons (fun c4 => ?_) (fun c4 => ?_)
  · refine am_aload_n dX10_count_59 rfl ?_
    refine am_callV (cvj := am_ci) (mtj := mX10_lostMany) (dj := 1) (nj := 0) (rcj := 0) (rsj := 0) (rc' := 0) (rs' := 0) (ci := 10) (st' := fun a9 => (am_I a9 :: [])) ⟨_, rfl, rfl⟩ [] [] dX10_count_60 okX10_lostMany lk_RX10_189 (fun zA zH zE => txX10_lostMany l0 h zA zH zE) rfl (fun _ => rfl) (by decide) rfl (Nat.le_of_ble_eq_true rfl) (by decide) (by decide) (fun r2 h3 => ?_)
    exact am_iret dX10_count_63 rfl rfl
  refine am_sw_cons (fun c5 => ?_) (fun c5 => ?_)
  · refine am_aload_n dX10_count_64 rfl ?_
    refine am_getR dX10_count_65 fk_RX10_9 rfl ?_
    refine am_iconst (v := 2) dX10_count_68 (by decide) ?_
    refine am_iald dX10_count_69 ?_
    exact am_iret dX10_count_70 rfl rfl
  refine am_sw_cons (fun c6 => ?_) (fun c6 => ?_)
  · refine am_aload_n dX10_count_71 rfl ?_
    refine am_getR dX10_count_72 fk_RX10_9 rfl ?_
    refine am_iconst (v := 3) dX10_count_75 (by decide) ?_
    refine am_iald dX10_count_76 ?_
    exact am_iret dX10_count_77 rfl rfl
  refine am_sw_cons (fun c7 => ?_) (fun c7 => ?_)
  · refine am_aload_n dX10_count_78 rfl ?_
    refine am_getR dX10_count_79 fk_RX10_9 rfl ?_
    refine am_iconst (v := 4) dX10_count_82 (by decide) ?_
    refine am_iald dX10_count_83 ?_
    exact am_iret dX10_count_84 rfl rfl
  refine am_sw_cons (fun c8 => ?_) (fun c8 => ?_)
  · refine am_aload_n dX10_count_85 rfl ?_
    refine am_getR dX10_count_86 fk_RX10_9 rfl ?_
    refine am_iconst (v := 5) dX10_count_89 (by decide) ?_
    refine am_iald dX10_count_90 ?_
    exact am_iret dX10_count_91 rfl rfl
  refine am_sw_cons (fun c9 => ?_) (fun c9 => ?_)
  · refine am_aload_n dX10_count_92 rfl ?_
    refine am_getI dX10_count_93 fk_RX10_290 rfl ?_
    exact am_iret dX10_count_96 rfl rfl
  refine am_sw_cons (fun c10 => ?_) (fun c10 => ?_)
  · refine am_aload_n dX10_count_97 rfl ?_
    refine am_getI dX10_count_98 fk_RX10_213 rfl ?_
    exact am_iret dX10_count_101 rfl rfl
  refine am_sw_cons (fun c11 => ?_) (fun c11 => ?_)
  · refine am_aload_n dX10_count_102 rfl ?_
    refine am_getR dX10_count_103 fk_RX10_9 rfl ?_
    refine am_iconst (v := 0) dX10_count_106 (by decide) ?_
    refine am_iald dX10_count_107 ?_
    exact am_iret dX10_count_108 rfl rfl
  refine am_sw_nil ?_
  refine am_ldc (v := (-1000000001)) dX10_count_109 wd1060 ?_
  exact am_iret dX10_count_111 rfl rfl
theorem txX10_count {xs : List Int32} (l0 : Option Nat) (l1 : Int32) (h : am_H) (a : Int32) (h2 : am_H) (e : fxX10_count l0 l1 h = some (a, h2)) : am_Ct xs mX10_count 2 0 0 [am_R l0, am_I l1] h (fun v h3 => v = am_ci a ∧ h3 = h2) := am_meth okX10_count (Nat.le_of_ble_eq_true rfl) rfl (sxX10_count l0 l1 h) e
